theorem dL_law_1590 : decode cL_law 1590 = .ok (.aload_n 1, 1) := by decide +kernel
theorem dL_law_1591 : decode cL_law 1591 = .ok (.aload_n 0, 1) := by decide +kernel
theorem dL_law_1592 : decode cL_law 1592 = .ok (.iload_n 3, 1) := by decide +kernel
theorem dL_law_1593 : decode cL_law 1593 = .ok (.iconst 1, 1) := by decide +kernel
theorem dL_law_1594 : decode cL_law 1594 = .ok (.iadd, 1) := by decide +kernel
theorem dL_law_1595 : decode cL_law 1595 = .ok (.iaload, 1) := by decide +kernel
theorem dL_law_1596 : decode cL_law 1596 = .ok (.aload_n 0, 1) := by decide +kernel
theorem dL_law_1597 : decode cL_law 1597 = .ok (.iload_n 3, 1) := by decide +kernel
theorem dL_law_1598 : decode cL_law 1598 = .ok (.iconst 2, 1) := by decide +kernel
theorem dL_law_1599 : decode cL_law 1599 = .ok (.iadd, 1) := by decide +kernel
theorem dL_law_1600 : decode cL_law 1600 = .ok (.iaload, 1) := by decide +kernel
theorem dL_law_1601 : decode cL_law 1601 = .ok (.invokevirtual 184, 3) := by decide +kernel
theorem dL_law_1604 : decode cL_law 1604 = .ok (.pop, 1) := by decide +kernel
theorem dL_law_1605 : decode cL_law 1605 = .ok (.aload_n 2, 1) := by decide +kernel
theorem dL_law_1606 : decode cL_law 1606 = .ok (.aload_n 0, 1) := by decide +kernel
theorem dL_law_1607 : decode cL_law 1607 = .ok (.iload_n 3, 1) := by decide +kernel
theorem dL_law_1608 : decode cL_law 1608 = .ok (.iconst 1, 1) := by decide +kernel
theorem dL_law_1609 : decode cL_law 1609 = .ok (.iadd, 1) := by decide +kernel
theorem dL_law_1610 : decode cL_law 1610 = .ok (.iaload, 1) := by decide +kernel
theorem dL_law_1611 : decode cL_law 1611 = .ok (.aload_n 0, 1) := by decide +kernel
theorem dL_law_1612 : decode cL_law 1612 = .ok (.iload_n 3, 1) := by decide +kernel
theorem dL_law_1613 : decode cL_law 1613 = .ok (.iconst 2, 1) := by decide +kernel
theorem dL_law_1614 : decode cL_law 1614 = .ok (.iadd, 1) := by decide +kernel
theorem dL_law_1615 : decode cL_law 1615 = .ok (.iaload, 1) := by decide +kernel
theorem dL_law_1616 : decode cL_law 1616 = .ok (.invokevirtual 187, 3) := by decide +kernel
theorem dL_law_1619 : decode cL_law 1619 = .ok (.pop, 1) := by decide +kernel
theorem dL_law_1620 : decode cL_law 1620 = .ok (.goto 187, 3) := by decide +kernel
theorem dL_law_1623 : decode cL_law 1623 = .ok (.aload_n 1, 1) := by decide +kernel
theorem dL_law_1624 : decode cL_law 1624 = .ok (.aload_n 0, 1) := by decide +kernel
theorem dL_law_1625 : decode cL_law 1625 = .ok (.iload_n 3, 1) := by decide +kernel
theorem dL_law_1626 : decode cL_law 1626 = .ok (.iconst 1, 1) := by decide +kernel
theorem dL_law_1627 : decode cL_law 1627 = .ok (.iadd, 1) := by decide +kernel
theorem dL_law_1628 : decode cL_law 1628 = .ok (.iaload, 1) := by decide +kernel
theorem dL_law_1629 : decode cL_law 1629 = .ok (.aload_n 0, 1) := by decide +kernel
theorem dL_law_1630 : decode cL_law 1630 = .ok (.iload_n 3, 1) := by decide +kernel
theorem dL_law_1631 : decode cL_law 1631 = .ok (.iconst 2, 1) := by decide +kernel
theorem dL_law_1632 : decode cL_law 1632 = .ok (.iadd, 1) := by decide +kernel
theorem dL_law_1633 : decode cL_law 1633 = .ok (.iaload, 1) := by decide +kernel
theorem dL_law_1634 : decode cL_law 1634 = .ok (.invokevirtual 188, 3) := by decide +kernel
theorem dL_law_1637 : decode cL_law 1637 = .ok (.pop, 1) := by decide +kernel
theorem dL_law_1638 : decode cL_law 1638 = .ok (.aload_n 2, 1) := by decide +kernel
theorem dL_law_1639 : decode cL_law 1639 = .ok (.aload_n 0, 1) := by decide +kernel
theorem dL_law_1640 : decode cL_law 1640 = .ok (.iload_n 3, 1) := by decide +kernel
theorem dL_law_1641 : decode cL_law 1641 = .ok (.iconst 1, 1) := by decide +kernel
theorem dL_law_1642 : decode cL_law 1642 = .ok (.iadd, 1) := by decide +kernel
theorem dL_law_1643 : decode cL_law 1643 = .ok (.iaload, 1) := by decide +kernel
theorem dL_law_1644 : decode cL_law 1644 = .ok (.aload_n 0, 1) := by decide +kernel
theorem dL_law_1645 : decode cL_law 1645 = .ok (.iload_n 3, 1) := by decide +kernel
theorem dL_law_1646 : decode cL_law 1646 = .ok (.iconst 2, 1) := by decide +kernel
theorem dL_law_1647 : decode cL_law 1647 = .ok (.iadd, 1) := by decide +kernel
theorem dL_law_1648 : decode cL_law 1648 = .ok (.iaload, 1) := by decide +kernel
theorem dL_law_1649 : decode cL_law 1649 = .ok (.invokevirtual 191, 3) := by decide +kernel
theorem dL_law_1652 : decode cL_law 1652 = .ok (.pop, 1) := by decide +kernel
theorem dL_law_1653 : decode cL_law 1653 = .ok (.goto 154, 3) := by decide +kernel
theorem dL_law_1656 : decode cL_law 1656 = .ok (.aload_n 1, 1) := by decide +kernel
theorem dL_law_1657 : decode cL_law 1657 = .ok (.aload_n 0, 1) := by decide +kernel
theorem dL_law_1658 : decode cL_law 1658 = .ok (.iload_n 3, 1) := by decide +kernel
theorem dL_law_1659 : decode cL_law 1659 = .ok (.iconst 1, 1) := by decide +kernel
theorem dL_law_1660 : decode cL_law 1660 = .ok (.iadd, 1) := by decide +kernel
theorem dL_law_1661 : decode cL_law 1661 = .ok (.iaload, 1) := by decide +kernel
theorem dL_law_1662 : decode cL_law 1662 = .ok (.aload_n 0, 1) := by decide +kernel
theorem dL_law_1663 : decode cL_law 1663 = .ok (.iload_n 3, 1) := by decide +kernel
theorem dL_law_1664 : decode cL_law 1664 = .ok (.iconst 2, 1) := by decide +kernel
theorem dL_law_1665 : decode cL_law 1665 = .ok (.iadd, 1) := by decide +kernel
theorem dL_law_1666 : decode cL_law 1666 = .ok (.iaload, 1) := by decide +kernel
theorem dL_law_1667 : decode cL_law 1667 = .ok (.invokevirtual 192, 3) := by decide +kernel
theorem dL_law_1670 : decode cL_law 1670 = .ok (.pop, 1) := by decide +kernel
theorem dL_law_1671 : decode cL_law 1671 = .ok (.aload_n 2, 1) := by decide +kernel
theorem dL_law_1672 : decode cL_law 1672 = .ok (.aload_n 0, 1) := by decide +kernel
theorem dL_law_1673 : decode cL_law 1673 = .ok (.iload_n 3, 1) := by decide +kernel
theorem dL_law_1674 : decode cL_law 1674 = .ok (.iconst 1, 1) := by decide +kernel
theorem dL_law_1675 : decode cL_law 1675 = .ok (.iadd, 1) := by decide +kernel
theorem dL_law_1676 : decode cL_law 1676 = .ok (.iaload, 1) := by decide +kernel
theorem dL_law_1677 : decode cL_law 1677 = .ok (.aload_n 0, 1) := by decide +kernel
theorem dL_law_1678 : decode cL_law 1678 = .ok (.iload_n 3, 1) := by decide +kernel
theorem dL_law_1679 : decode cL_law 1679 = .ok (.iconst 2, 1) := by decide +kernel
theorem dL_law_1680 : decode cL_law 1680 = .ok (.iadd, 1) := by decide +kernel
theorem dL_law_1681 : decode cL_law 1681 = .ok (.iaload, 1) := by decide +kernel
theorem dL_law_1682 : decode cL_law 1682 = .ok (.invokevirtual 195, 3) := by decide +kernel
theorem dL_law_1685 : decode cL_law 1685 = .ok (.pop, 1) := by decide +kernel
theorem dL_law_1686 : decode cL_law 1686 = .ok (.goto 121, 3) := by decide +kernel
theorem dL_law_1689 : decode cL_law 1689 = .ok (.aload_n 1, 1) := by decide +kernel
theorem dL_law_1690 : decode cL_law 1690 = .ok (.aload_n 0, 1) := by decide +kernel
theorem dL_law_1691 : decode cL_law 1691 = .ok (.iload_n 3, 1) := by decide +kernel
theorem dL_law_1692 : decode cL_law 1692 = .ok (.iconst 1, 1) := by decide +kernel
theorem dL_law_1693 : decode cL_law 1693 = .ok (.iadd, 1) := by decide +kernel
theorem dL_law_1694 : decode cL_law 1694 = .ok (.iaload, 1) := by decide +kernel
theorem dL_law_1695 : decode cL_law 1695 = .ok (.aload_n 0, 1) := by decide +kernel
theorem dL_law_1696 : decode cL_law 1696 = .ok (.iload_n 3, 1) := by decide +kernel
theorem dL_law_1697 : decode cL_law 1697 = .ok (.iconst 2, 1) := by decide +kernel
theorem dL_law_1698 : decode cL_law 1698 = .ok (.iadd, 1) := by decide +kernel
theorem dL_law_1699 : decode cL_law 1699 = .ok (.iaload, 1) := by decide +kernel
theorem dL_law_1700 : decode cL_law 1700 = .ok (.invokevirtual 196, 3) := by decide +kernel
theorem dL_law_1703 : decode cL_law 1703 = .ok (.pop, 1) := by decide +kernel
theorem dL_law_1704 : decode cL_law 1704 = .ok (.aload_n 2, 1) := by decide +kernel
theorem dL_law_1705 : decode cL_law 1705 = .ok (.aload_n 0, 1) := by decide +kernel
theorem dL_law_1706 : decode cL_law 1706 = .ok (.iload_n 3, 1) := by decide +kernel
theorem dL_law_1707 : decode cL_law 1707 = .ok (.iconst 1, 1) := by decide +kernel
theorem dL_law_1708 : decode cL_law 1708 = .ok (.iadd, 1) := by decide +kernel
theorem dL_law_1709 : decode cL_law 1709 = .ok (.iaload, 1) := by decide +kernel
theorem dL_law_1710 : decode cL_law 1710 = .ok (.aload_n 0, 1) := by decide +kernel
theorem dL_law_1711 : decode cL_law 1711 = .ok (.iload_n 3, 1) := by decide +kernel
theorem dL_law_1712 : decode cL_law 1712 = .ok (.iconst 2, 1) := by decide +kernel
theorem dL_law_1713 : decode cL_law 1713 = .ok (.iadd, 1) := by decide +kernel
theorem dL_law_1714 : decode cL_law 1714 = .ok (.iaload, 1) := by decide +kernel
theorem dL_law_1715 : decode cL_law 1715 = .ok (.invokevirtual 199, 3) := by decide +kernel
theorem dL_law_1718 : decode cL_law 1718 = .ok (.pop, 1) := by decide +kernel
theorem dL_law_1719 : decode cL_law 1719 = .ok (.goto 88, 3) := by decide +kernel
theorem dL_law_1722 : decode cL_law 1722 = .ok (.aload_n 1, 1) := by decide +kernel
theorem dL_law_1723 : decode cL_law 1723 = .ok (.invokevirtual 200, 3) := by decide +kernel
theorem dL_law_1726 : decode cL_law 1726 = .ok (.pop, 1) := by decide +kernel
theorem dL_law_1727 : decode cL_law 1727 = .ok (.aload_n 2, 1) := by decide +kernel
theorem dL_law_1728 : decode cL_law 1728 = .ok (.invokevirtual 203, 3) := by decide +kernel
theorem dL_law_1731 : decode cL_law 1731 = .ok (.pop, 1) := by decide +kernel
theorem dL_law_1732 : decode cL_law 1732 = .ok (.goto 75, 3) := by decide +kernel
theorem dL_law_1735 : decode cL_law 1735 = .ok (.aload_n 1, 1) := by decide +kernel
theorem dL_law_1736 : decode cL_law 1736 = .ok (.aload_n 0, 1) := by decide +kernel
theorem dL_law_1737 : decode cL_law 1737 = .ok (.iload_n 3, 1) := by decide +kernel
theorem dL_law_1738 : decode cL_law 1738 = .ok (.iconst 1, 1) := by decide +kernel
theorem dL_law_1739 : decode cL_law 1739 = .ok (.iadd, 1) := by decide +kernel
theorem dL_law_1740 : decode cL_law 1740 = .ok (.iaload, 1) := by decide +kernel
theorem dL_law_1741 : decode cL_law 1741 = .ok (.invokevirtual 204, 3) := by decide +kernel
theorem dL_law_1744 : decode cL_law 1744 = .ok (.pop, 1) := by decide +kernel
theorem dL_law_1745 : decode cL_law 1745 = .ok (.aload_n 2, 1) := by decide +kernel
theorem dL_law_1746 : decode cL_law 1746 = .ok (.aload_n 0, 1) := by decide +kernel
theorem dL_law_1747 : decode cL_law 1747 = .ok (.iload_n 3, 1) := by decide +kernel
theorem dL_law_1748 : decode cL_law 1748 = .ok (.iconst 1, 1) := by decide +kernel
theorem dL_law_1749 : decode cL_law 1749 = .ok (.iadd, 1) := by decide +kernel
theorem dL_law_1750 : decode cL_law 1750 = .ok (.iaload, 1) := by decide +kernel
theorem dL_law_1751 : decode cL_law 1751 = .ok (.invokevirtual 207, 3) := by decide +kernel
theorem dL_law_1754 : decode cL_law 1754 = .ok (.pop, 1) := by decide +kernel
theorem dL_law_1755 : decode cL_law 1755 = .ok (.goto 52, 3) := by decide +kernel
theorem dL_law_1758 : decode cL_law 1758 = .ok (.aload_n 1, 1) := by decide +kernel
theorem dL_law_1759 : decode cL_law 1759 = .ok (.invokevirtual 208, 3) := by decide +kernel
theorem dL_law_1762 : decode cL_law 1762 = .ok (.pop, 1) := by decide +kernel
theorem dL_law_1763 : decode cL_law 1763 = .ok (.aload_n 2, 1) := by decide +kernel
theorem dL_law_1764 : decode cL_law 1764 = .ok (.invokevirtual 211, 3) := by decide +kernel
theorem dL_law_1767 : decode cL_law 1767 = .ok (.pop, 1) := by decide +kernel
theorem dL_law_1768 : decode cL_law 1768 = .ok (.goto 39, 3) := by decide +kernel
theorem dL_law_1771 : decode cL_law 1771 = .ok (.aload_n 1, 1) := by decide +kernel
theorem dL_law_1772 : decode cL_law 1772 = .ok (.invokevirtual 212, 3) := by decide +kernel
theorem dL_law_1775 : decode cL_law 1775 = .ok (.pop, 1) := by decide +kernel
theorem dL_law_1776 : decode cL_law 1776 = .ok (.aload_n 2, 1) := by decide +kernel
theorem dL_law_1777 : decode cL_law 1777 = .ok (.invokevirtual 215, 3) := by decide +kernel
theorem dL_law_1780 : decode cL_law 1780 = .ok (.pop, 1) := by decide +kernel
theorem dL_law_1781 : decode cL_law 1781 = .ok (.goto 26, 3) := by decide +kernel
theorem dL_law_1784 : decode cL_law 1784 = .ok (.aload_n 1, 1) := by decide +kernel
theorem dL_law_1785 : decode cL_law 1785 = .ok (.aload_n 0, 1) := by decide +kernel
theorem dL_law_1786 : decode cL_law 1786 = .ok (.iload_n 3, 1) := by decide +kernel
theorem dL_law_1787 : decode cL_law 1787 = .ok (.iconst 1, 1) := by decide +kernel
theorem dL_law_1788 : decode cL_law 1788 = .ok (.iadd, 1) := by decide +kernel
theorem dL_law_1789 : decode cL_law 1789 = .ok (.iaload, 1) := by decide +kernel
theorem dL_law_1790 : decode cL_law 1790 = .ok (.invokevirtual 216, 3) := by decide +kernel
theorem dL_law_1793 : decode cL_law 1793 = .ok (.pop, 1) := by decide +kernel
theorem dL_law_1794 : decode cL_law 1794 = .ok (.aload_n 2, 1) := by decide +kernel
theorem dL_law_1795 : decode cL_law 1795 = .ok (.aload_n 0, 1) := by decide +kernel
theorem dL_law_1796 : decode cL_law 1796 = .ok (.iload_n 3, 1) := by decide +kernel
theorem dL_law_1797 : decode cL_law 1797 = .ok (.iconst 1, 1) := by decide +kernel
theorem dL_law_1798 : decode cL_law 1798 = .ok (.iadd, 1) := by decide +kernel
theorem dL_law_1799 : decode cL_law 1799 = .ok (.iaload, 1) := by decide +kernel
theorem dL_law_1800 : decode cL_law 1800 = .ok (.invokevirtual 219, 3) := by decide +kernel
theorem dL_law_1803 : decode cL_law 1803 = .ok (.pop, 1) := by decide +kernel
theorem dL_law_1804 : decode cL_law 1804 = .ok (.goto 3, 3) := by decide +kernel
set_option maxHeartbeats 4000000 in
set_option maxRecDepth 100000 in
theorem law_40 {p : Program} {l : Launch} {e : Env} {s : State} {m : MethodId} {below : List Frame} {meth : Method} {c : Code} {b L : Nat} {xs : Nat → Int32} {A : Nat → Prop} {G : va_G} {cy : Nat → ClassId} {aX aM rR rB rO rK : Nat → Nat} (hx : p.tables.exec = Jvm.exec) (hb : c.code = code) (hr : meth.sig.returnType = ret) (hml : c.maxLocals = 4) (hown : s.vm.findClass RL = some m.cls) (hts : ∀ w ∈ BIG, w.before #[Value.ref b] s = true) (hX : va_X b L xs s s.heap) (hbl : b < s.heap.size) (hlocks : meth.locks = false) (hN : KN G cy s) (hA : ∀ q : Nat, s.heap.size ≤ q → A q) (hAn : ∀ q : Nat, A q → s.heap.size ≤ q) (hbA : ¬ A b) (hSO : SO A s s.heap) {H : Heap} {locs : List Loc} {ls : Array Slot} {kI nC nS : Nat} (hkI : kI + 6 ≤ L) (hL : L ≤ 384) (hnC : nC + 250 ≤ 600000) (hnS : nS + 4440 ≤ 7302250) (hI : LINV G cy A H aX aM rR rB rO rK) (hS : va_S A s.heap H locs) (hl : lv_has ls 4 [(3, .int (nI kI)), (2, .ref (aM 0)), (1, .ref (aX 0)), (0, .ref b)]) (kk : ∀ (H : Heap) (locs : List Loc), LINV G cy A H aX aM rR rB rO rK → va_S A s.heap H locs → W p l e room_1 s m #[Value.ref b] below meth c H locs (nC + 250) (nS + 4440) (lw_Z below #[Value.ref b] s) (F0 m 1807 ls [])) : W p l e room_1 s m #[Value.ref b] below meth c H locs nC nS (lw_Z below #[Value.ref b] s) (F0 m 1590 ls []) := by
  obtain ⟨iKp, iYe, iTv, fR, tA, tB, iL, iBs, tU, tV, fH, fS, fA, gE, kZ, iT1, iT2, iT3, iT4, fB, tD, fMh, fMo, fMz, gMv, fMk, fMa, fMt, kY, fMr, fM3, fMu, fMy, fMb, eR, tM, iEn, iTk, uP, uU, kAt, iTo, iFr, JFi, iFa, iSt, iLv, iWs, wL, uS0, uS1, uS2, uS3, uS4, iOm, hP, hD, hsX, hsM, hLR⟩ := hI
  refine lv_aload_n hx hb dL_law_1590 rfl (lv_at hl 2 rfl) ?_
  refine lv_aload_n hx hb dL_law_1591 rfl (lv_at hl 3 rfl) ?_
  refine lv_iload_n hx hb dL_law_1592 rfl (lv_at hl 0 rfl) ?_
  refine lv_iconst (v := 1) hx hb dL_law_1593 (by decide) ?_
  refine lv_iadd hx hb dL_law_1594 ?_
  refine lv_seti (v := nI (kI + 1)) (nI_add _ _) ?_
  refine va_sld hx hb hX hbl hbA hS (vp_in_nI (by omega) (by omega)) dL_law_1595 ?_
  refine lv_seti (v := xs (kI + 1)) (congrArg xs (nI_clamp (by omega))) ?_
  refine lv_aload_n hx hb dL_law_1596 rfl (lv_at hl 3 rfl) ?_
  refine lv_iload_n hx hb dL_law_1597 rfl (lv_at hl 0 rfl) ?_
  refine lv_iconst (v := 2) hx hb dL_law_1598 (by decide) ?_
  refine lv_iadd hx hb dL_law_1599 ?_
  refine lv_seti (v := nI (kI + 2)) (nI_add _ _) ?_
  refine va_sld hx hb hX hbl hbA hS (vp_in_nI (by omega) (by omega)) dL_law_1600 ?_
  refine lv_seti (v := xs (kI + 2)) (congrArg xs (nI_clamp (by omega))) ?_
  refine cViQ (As := [.int (xs (kI + 1)), .int (xs (kI + 2))]) (rest := []) (b := (aX 0)) (q := (RX5, TX5, 9)) ⟨hx, hb, hml, hown, hts⟩ (p_X5_gains l G cy (H).size (aX 0) (aX 2) (aX 11) (aX 20) (aX 39) (aX 44) (aX 1) iKp iYe iTv fR (aX 40) (aX 41) (aX 42) (aX 43) fH fA tA (aX 3) (aX 4) (aX 5) (aX 6) (aX 7) (aX 8) (aX 9) (aX 10) (aX 21) (aX 30) iL iBs tU (aX 22) (aX 23) (aX 24) (aX 25) (aX 26) (aX 27) (aX 28) (aX 29) (xs (kI + 1)) (xs (kI + 2)) hsX.1.1 hsX.1.2) L_L_184 hN hP hD hS hA [0, 1, 39, 40, 42, 2, 3, 4, 5, 6, 7, 8, 9, 10, 20, 21, 22, 23, 24, 25, 26, 27, 28, 29] [false, false, false, false, false, false, false, false, false, false, false, true, true, true, true, true, true, true, true, true, false, false, false, false, false, false, false, false, false, false, true, true, true, true, true, true, true, true, true, false, false, true, false, true, true, true, true, true, true, true, true, true, true, true, true] rfl (by decide +kernel) rfl 0 4 rfl rfl rfl ⟨Nat.le_of_ble_eq_true rfl, Nat.le_of_ble_eq_true rfl⟩ hl.1 (Nat.le_of_ble_eq_true rfl) dL_law_1601 ⟨by show nC + 0 ≤ 600000; omega, by show nS + 0 ≤ 7302250; omega⟩ (fun r_1 u_3 H locs h_2 => ?_)
  clear hP hD hS
  intro hP hD hS
  obtain ⟨fX_4, iX_5, iY_6, tX_7, rfl, h_2⟩ := h_2
  replace hP : va_P G CL ((XW cy aX iKp iYe iTv fX_4 tA tB iX_5 iY_6 tX_7 tV fH fS fA gE kZ iT1 iT2 iT3 iT4 fB tD) ++ ((MK cy aM rR rB rO rK fMh fMo fMz gMv fMk fMa fMt kY fMr fM3 fMu fMy fMb eR tM iEn iTk uP uU kAt iTo iFr JFi iFa iSt iLv iWs wL uS0 uS1 uS2 uS3 uS4 iOm) ++ ((oM cy uU) ++ ((oL cy wL) ++ ((oM cy uP) ++ (oM cy uS0 ++ (oM cy uS1 ++ (oM cy uS2 ++ (oM cy uS3 ++ oM cy uS4))))))))) H := hP.part [31, 32, 36, 37, 38, 39, 40, 41, 42, 43, 44, 0, 1, 2, 3, 4, 5, 6, 7, 8, 45, 46, 47, 48, 49, 50, 51, 52, 53, 54, 9, 10, 11, 12, 13, 14, 15, 16, 17, 33, 34, 18, 35, 19, 20, 21, 22, 23, 24, 25, 26, 27, 28, 29, 30] rfl
  replace hD : va_D A ((XW cy aX iKp iYe iTv fX_4 tA tB iX_5 iY_6 tX_7 tV fH fS fA gE kZ iT1 iT2 iT3 iT4 fB tD) ++ ((MK cy aM rR rB rO rK fMh fMo fMz gMv fMk fMa fMt kY fMr fM3 fMu fMy fMb eR tM iEn iTk uP uU kAt iTo iFr JFi iFa iSt iLv iWs wL uS0 uS1 uS2 uS3 uS4 iOm) ++ ((oM cy uU) ++ ((oL cy wL) ++ ((oM cy uP) ++ (oM cy uS0 ++ (oM cy uS1 ++ (oM cy uS2 ++ (oM cy uS3 ++ oM cy uS4))))))))) := hD.part [31, 32, 36, 37, 38, 39, 40, 41, 42, 43, 44, 0, 1, 2, 3, 4, 5, 6, 7, 8, 45, 46, 47, 48, 49, 50, 51, 52, 53, 54, 9, 10, 11, 12, 13, 14, 15, 16, 17, 33, 34, 18, 35, 19, 20, 21, 22, 23, 24, 25, 26, 27, 28, 29, 30] (by decide +kernel) rfl
  refine lv_pop hx hb dL_law_1604 rfl ?_
  refine lv_aload_n hx hb dL_law_1605 rfl (lv_at hl 1 rfl) ?_
  refine lv_aload_n hx hb dL_law_1606 rfl (lv_at hl 3 rfl) ?_
  refine lv_iload_n hx hb dL_law_1607 rfl (lv_at hl 0 rfl) ?_
  refine lv_iconst (v := 1) hx hb dL_law_1608 (by decide) ?_
  refine lv_iadd hx hb dL_law_1609 ?_
  refine lv_seti (v := nI (kI + 1)) (nI_add _ _) ?_
  refine va_sld hx hb hX hbl hbA hS (vp_in_nI (by omega) (by omega)) dL_law_1610 ?_
  refine lv_seti (v := xs (kI + 1)) (congrArg xs (nI_clamp (by omega))) ?_
  refine lv_aload_n hx hb dL_law_1611 rfl (lv_at hl 3 rfl) ?_
  refine lv_iload_n hx hb dL_law_1612 rfl (lv_at hl 0 rfl) ?_
  refine lv_iconst (v := 2) hx hb dL_law_1613 (by decide) ?_
  refine lv_iadd hx hb dL_law_1614 ?_
  refine lv_seti (v := nI (kI + 2)) (nI_add _ _) ?_
  refine va_sld hx hb hX hbl hbA hS (vp_in_nI (by omega) (by omega)) dL_law_1615 ?_
  refine lv_seti (v := xs (kI + 2)) (congrArg xs (nI_clamp (by omega))) ?_
  replace hP : va_P G CL (((MK cy aM rR rB rO rK fMh fMo fMz gMv fMk fMa fMt kY fMr fM3 fMu fMy fMb eR tM iEn iTk uP uU kAt iTo iFr JFi iFa iSt iLv iWs wL uS0 uS1 uS2 uS3 uS4 iOm) ++ (oM cy uU)) ++ (((oL cy wL) ++ ((oM cy uP) ++ (oM cy uS0 ++ (oM cy uS1 ++ (oM cy uS2 ++ (oM cy uS3 ++ oM cy uS4)))))) ++ (XW cy aX iKp iYe iTv fX_4 tA tB iX_5 iY_6 tX_7 tV fH fS fA gE kZ iT1 iT2 iT3 iT4 fB tD))) H := toUP hP
  replace hD : va_D A (((MK cy aM rR rB rO rK fMh fMo fMz gMv fMk fMa fMt kY fMr fM3 fMu fMy fMb eR tM iEn iTk uP uU kAt iTo iFr JFi iFa iSt iLv iWs wL uS0 uS1 uS2 uS3 uS4 iOm) ++ (oM cy uU)) ++ (((oL cy wL) ++ ((oM cy uP) ++ (oM cy uS0 ++ (oM cy uS1 ++ (oM cy uS2 ++ (oM cy uS3 ++ oM cy uS4)))))) ++ (XW cy aX iKp iYe iTv fX_4 tA tB iX_5 iY_6 tX_7 tV fH fS fA gE kZ iT1 iT2 iT3 iT4 fB tD))) := toUD hD
  refine cViPQ (As := [.int (xs (kI + 1)), .int (xs (kI + 2))]) (rest := []) (b := (aM 0)) (q := (RX6, TX6, 35)) ⟨hx, hb, hml, hown, hts⟩ (p_X6_gains l G cy (H).size (aM 0) (aM 1) (aM 2) (aM 3) (aM 14) (aM 4) (aM 5) (aM 6) (aM 7) kY (aM 8) tM (aM 15) (aM 16) (aM 17) iEn iTk uP uU kAt iTo iFr JFi iFa (aM 9) iSt iLv iWs (ovL wL) (aM 10) (aM 11) (aM 12) (aM 13) iOm fMh fMk fMa fMr rB rO rK (xs (kI + 1)) (xs (kI + 2)) hsM.1.1.1 hsM.1.1.2 hsM.1 hsM.2.2.2.1) L_L_187 hN hP hD hS hA [0, 1, 5, 6, 8, 23, 24, 25, 26, 27, 28, 29, 30, 31, 32, 33, 34, 35, 36, 37, 38, 39, 40, 41, 42, 43, 44, 45, 46, 47, 48, 49] [false, false, true, true, true, false, false, true, false, true, true, true, true, true, true, true, true, true, true, true, true, true, true, false, false, false, false, false, false, false, false, false, false, false, false, false, false, false, false, false, false, false, false, false, false, false, false, false, false, false] rfl (by decide +kernel) rfl 0 5 rfl rfl rfl ⟨Nat.le_of_ble_eq_true rfl, Nat.le_of_ble_eq_true rfl⟩ hl.1 (Nat.le_of_ble_eq_true rfl) dL_law_1616 ⟨by show nC + 0 + 50 ≤ 600000; omega, by show nS + 0 + 888 ≤ 7302250; omega⟩ (fun r_8 u_10 H locs h_9 => ?_)
  clear hP hD hS
  intro hP hD hS
  obtain ⟨fNr_11, uN_12, rfl, h_9⟩ := h_9
  replace hP := as1P hP
  replace hD := as1D hD
  replace hP : va_P G CL ((MK cy aM rR rB rO rK fMh fMo fMz gMv fMk fMa fMt kY fNr_11 fM3 fMu fMy fMb eR tM iEn iTk uP uN_12 kAt iTo iFr JFi iFa iSt iLv iWs wL uS0 uS1 uS2 uS3 uS4 iOm) ++ ((oM cy uN_12) ++ (((oL cy wL) ++ ((oM cy uP) ++ (oM cy uS0 ++ (oM cy uS1 ++ (oM cy uS2 ++ (oM cy uS3 ++ oM cy uS4)))))) ++ (XW cy aX iKp iYe iTv fX_4 tA tB iX_5 iY_6 tX_7 tV fH fS fA gE kZ iT1 iT2 iT3 iT4 fB tD)))) H := hP.part [18, 19, 0, 1, 2, 20, 21, 3, 22, 4, 5, 6, 7, 8, 9, 10, 11, 12, 13, 14, 15, 16, 17, 23, 24, 25, 26, 27, 28, 29, 30, 31, 32, 33, 34, 35, 36, 37, 38, 39, 40, 41, 42, 43, 44, 45, 46, 47, 48, 49] rfl
  replace hD : va_D A ((MK cy aM rR rB rO rK fMh fMo fMz gMv fMk fMa fMt kY fNr_11 fM3 fMu fMy fMb eR tM iEn iTk uP uN_12 kAt iTo iFr JFi iFa iSt iLv iWs wL uS0 uS1 uS2 uS3 uS4 iOm) ++ ((oM cy uN_12) ++ (((oL cy wL) ++ ((oM cy uP) ++ (oM cy uS0 ++ (oM cy uS1 ++ (oM cy uS2 ++ (oM cy uS3 ++ oM cy uS4)))))) ++ (XW cy aX iKp iYe iTv fX_4 tA tB iX_5 iY_6 tX_7 tV fH fS fA gE kZ iT1 iT2 iT3 iT4 fB tD)))) := hD.part [18, 19, 0, 1, 2, 20, 21, 3, 22, 4, 5, 6, 7, 8, 9, 10, 11, 12, 13, 14, 15, 16, 17, 23, 24, 25, 26, 27, 28, 29, 30, 31, 32, 33, 34, 35, 36, 37, 38, 39, 40, 41, 42, 43, 44, 45, 46, 47, 48, 49] (by decide +kernel) rfl
  replace hP : va_P G CL ((XW cy aX iKp iYe iTv fX_4 tA tB iX_5 iY_6 tX_7 tV fH fS fA gE kZ iT1 iT2 iT3 iT4 fB tD) ++ ((MK cy aM rR rB rO rK fMh fMo fMz gMv fMk fMa fMt kY fNr_11 fM3 fMu fMy fMb eR tM iEn iTk uP uN_12 kAt iTo iFr JFi iFa iSt iLv iWs wL uS0 uS1 uS2 uS3 uS4 iOm) ++ ((oM cy uN_12) ++ ((oL cy wL) ++ ((oM cy uP) ++ (oM cy uS0 ++ (oM cy uS1 ++ (oM cy uS2 ++ (oM cy uS3 ++ oM cy uS4))))))))) H := ofUP hP
  replace hD : va_D A ((XW cy aX iKp iYe iTv fX_4 tA tB iX_5 iY_6 tX_7 tV fH fS fA gE kZ iT1 iT2 iT3 iT4 fB tD) ++ ((MK cy aM rR rB rO rK fMh fMo fMz gMv fMk fMa fMt kY fNr_11 fM3 fMu fMy fMb eR tM iEn iTk uP uN_12 kAt iTo iFr JFi iFa iSt iLv iWs wL uS0 uS1 uS2 uS3 uS4 iOm) ++ ((oM cy uN_12) ++ ((oL cy wL) ++ ((oM cy uP) ++ (oM cy uS0 ++ (oM cy uS1 ++ (oM cy uS2 ++ (oM cy uS3 ++ oM cy uS4))))))))) := ofUD hD
  refine lv_pop hx hb dL_law_1619 rfl ?_
  refine lv_goto (tgt := 1807) hx hb dL_law_1620 (by decide) ?_
  refine W.widen (k := nC + 250) (n := nS + 4440) (by omega) (by omega) ?_
  exact kk _ _ ⟨iKp, iYe, iTv, fX_4, tA, tB, iX_5, iY_6, tX_7, tV, fH, fS, fA, gE, kZ, iT1, iT2, iT3, iT4, fB, tD, fMh, fMo, fMz, gMv, fMk, fMa, fMt, kY, fNr_11, fM3, fMu, fMy, fMb, eR, tM, iEn, iTk, uP, uN_12, kAt, iTo, iFr, JFi, iFa, iSt, iLv, iWs, wL, uS0, uS1, uS2, uS3, uS4, iOm, hP, hD, hsX, hsM, trivial⟩ hS
set_option maxHeartbeats 4000000 in
set_option maxRecDepth 100000 in
theorem law_41 {p : Program} {l : Launch} {e : Env} {s : State} {m : MethodId} {below : List Frame} {meth : Method} {c : Code} {b L : Nat} {xs : Nat → Int32} {A : Nat → Prop} {G : va_G} {cy : Nat → ClassId} {aX aM rR rB rO rK : Nat → Nat} (hx : p.tables.exec = Jvm.exec) (hb : c.code = code) (hr : meth.sig.returnType = ret) (hml : c.maxLocals = 4) (hown : s.vm.findClass RL = some m.cls) (hts : ∀ w ∈ BIG, w.before #[Value.ref b] s = true) (hX : va_X b L xs s s.heap) (hbl : b < s.heap.size) (hlocks : meth.locks = false) (hN : KN G cy s) (hA : ∀ q : Nat, s.heap.size ≤ q → A q) (hAn : ∀ q : Nat, A q → s.heap.size ≤ q) (hbA : ¬ A b) (hSO : SO A s s.heap) {H : Heap} {locs : List Loc} {ls : Array Slot} {kI nC nS : Nat} (hkI : kI + 6 ≤ L) (hL : L ≤ 384) (hnC : nC + 250 ≤ 600000) (hnS : nS + 4440 ≤ 7302250) (hI : LINV G cy A H aX aM rR rB rO rK) (hS : va_S A s.heap H locs) (hl : lv_has ls 4 [(3, .int (nI kI)), (2, .ref (aM 0)), (1, .ref (aX 0)), (0, .ref b)]) (kk : ∀ (H : Heap) (locs : List Loc), LINV G cy A H aX aM rR rB rO rK → va_S A s.heap H locs → W p l e room_1 s m #[Value.ref b] below meth c H locs (nC + 250) (nS + 4440) (lw_Z below #[Value.ref b] s) (F0 m 1807 ls [])) : W p l e room_1 s m #[Value.ref b] below meth c H locs nC nS (lw_Z below #[Value.ref b] s) (F0 m 1623 ls []) := by
  obtain ⟨iKp, iYe, iTv, fR, tA, tB, iL, iBs, tU, tV, fH, fS, fA, gE, kZ, iT1, iT2, iT3, iT4, fB, tD, fMh, fMo, fMz, gMv, fMk, fMa, fMt, kY, fMr, fM3, fMu, fMy, fMb, eR, tM, iEn, iTk, uP, uU, kAt, iTo, iFr, JFi, iFa, iSt, iLv, iWs, wL, uS0, uS1, uS2, uS3, uS4, iOm, hP, hD, hsX, hsM, hLR⟩ := hI
  refine lv_aload_n hx hb dL_law_1623 rfl (lv_at hl 2 rfl) ?_
  refine lv_aload_n hx hb dL_law_1624 rfl (lv_at hl 3 rfl) ?_
  refine lv_iload_n hx hb dL_law_1625 rfl (lv_at hl 0 rfl) ?_
  refine lv_iconst (v := 1) hx hb dL_law_1626 (by decide) ?_
  refine lv_iadd hx hb dL_law_1627 ?_
  refine lv_seti (v := nI (kI + 1)) (nI_add _ _) ?_
  refine va_sld hx hb hX hbl hbA hS (vp_in_nI (by omega) (by omega)) dL_law_1628 ?_
  refine lv_seti (v := xs (kI + 1)) (congrArg xs (nI_clamp (by omega))) ?_
  refine lv_aload_n hx hb dL_law_1629 rfl (lv_at hl 3 rfl) ?_
  refine lv_iload_n hx hb dL_law_1630 rfl (lv_at hl 0 rfl) ?_
  refine lv_iconst (v := 2) hx hb dL_law_1631 (by decide) ?_
  refine lv_iadd hx hb dL_law_1632 ?_
  refine lv_seti (v := nI (kI + 2)) (nI_add _ _) ?_
  refine va_sld hx hb hX hbl hbA hS (vp_in_nI (by omega) (by omega)) dL_law_1633 ?_
  refine lv_seti (v := xs (kI + 2)) (congrArg xs (nI_clamp (by omega))) ?_
  refine cViQ (As := [.int (xs (kI + 1)), .int (xs (kI + 2))]) (rest := []) (b := (aX 0)) (q := (RX5, TX5, 9)) ⟨hx, hb, hml, hown, hts⟩ (p_X5_judge l G cy (H).size (aX 0) (aX 2) (aX 11) (aX 20) (aX 39) (aX 44) (aX 1) iKp iYe iTv fR (aX 40) (aX 41) (aX 42) (aX 43) fH fS gE tA (aX 3) (aX 4) (aX 5) (aX 6) (aX 7) (aX 8) (aX 9) (aX 10) (aX 21) (aX 30) iL iBs tU (aX 22) (aX 23) (aX 24) (aX 25) (aX 26) (aX 27) (aX 28) (aX 29) (xs (kI + 1)) (xs (kI + 2)) hsX.1.1 hsX.1.2 hsX.2.2.2.1) L_L_188 hN hP hD hS hA [0, 1, 39, 40, 41, 43, 2, 3, 4, 5, 6, 7, 8, 9, 10, 20, 21, 22, 23, 24, 25, 26, 27, 28, 29] [false, false, false, false, false, false, false, false, false, false, false, true, true, true, true, true, true, true, true, true, false, false, false, false, false, false, false, false, false, false, true, true, true, true, true, true, true, true, true, false, false, false, true, false, true, true, true, true, true, true, true, true, true, true, true] rfl (by decide +kernel) rfl 0 4 rfl rfl rfl ⟨Nat.le_of_ble_eq_true rfl, Nat.le_of_ble_eq_true rfl⟩ hl.1 (Nat.le_of_ble_eq_true rfl) dL_law_1634 ⟨by show nC + 0 ≤ 600000; omega, by show nS + 0 ≤ 7302250; omega⟩ (fun r_1 u_3 H locs h_2 => ?_)
  clear hP hD hS
  intro hP hD hS
  obtain ⟨fX_4, tX_5, rfl, h_2⟩ := h_2
  replace hP : va_P G CL ((XW cy aX iKp iYe iTv fX_4 tA tB iL iBs tX_5 tV fH fS fA gE kZ iT1 iT2 iT3 iT4 fB tD) ++ ((MK cy aM rR rB rO rK fMh fMo fMz gMv fMk fMa fMt kY fMr fM3 fMu fMy fMb eR tM iEn iTk uP uU kAt iTo iFr JFi iFa iSt iLv iWs wL uS0 uS1 uS2 uS3 uS4 iOm) ++ ((oM cy uU) ++ ((oL cy wL) ++ ((oM cy uP) ++ (oM cy uS0 ++ (oM cy uS1 ++ (oM cy uS2 ++ (oM cy uS3 ++ oM cy uS4))))))))) H := hP.part [30, 31, 36, 37, 38, 39, 40, 41, 42, 43, 44, 0, 1, 2, 3, 4, 5, 6, 7, 8, 45, 46, 47, 48, 49, 50, 51, 52, 53, 54, 9, 10, 11, 12, 13, 14, 15, 16, 17, 32, 33, 34, 18, 35, 19, 20, 21, 22, 23, 24, 25, 26, 27, 28, 29] rfl
  replace hD : va_D A ((XW cy aX iKp iYe iTv fX_4 tA tB iL iBs tX_5 tV fH fS fA gE kZ iT1 iT2 iT3 iT4 fB tD) ++ ((MK cy aM rR rB rO rK fMh fMo fMz gMv fMk fMa fMt kY fMr fM3 fMu fMy fMb eR tM iEn iTk uP uU kAt iTo iFr JFi iFa iSt iLv iWs wL uS0 uS1 uS2 uS3 uS4 iOm) ++ ((oM cy uU) ++ ((oL cy wL) ++ ((oM cy uP) ++ (oM cy uS0 ++ (oM cy uS1 ++ (oM cy uS2 ++ (oM cy uS3 ++ oM cy uS4))))))))) := hD.part [30, 31, 36, 37, 38, 39, 40, 41, 42, 43, 44, 0, 1, 2, 3, 4, 5, 6, 7, 8, 45, 46, 47, 48, 49, 50, 51, 52, 53, 54, 9, 10, 11, 12, 13, 14, 15, 16, 17, 32, 33, 34, 18, 35, 19, 20, 21, 22, 23, 24, 25, 26, 27, 28, 29] (by decide +kernel) rfl
  refine lv_pop hx hb dL_law_1637 rfl ?_
  refine lv_aload_n hx hb dL_law_1638 rfl (lv_at hl 1 rfl) ?_
  refine lv_aload_n hx hb dL_law_1639 rfl (lv_at hl 3 rfl) ?_
  refine lv_iload_n hx hb dL_law_1640 rfl (lv_at hl 0 rfl) ?_
  refine lv_iconst (v := 1) hx hb dL_law_1641 (by decide) ?_
  refine lv_iadd hx hb dL_law_1642 ?_
  refine lv_seti (v := nI (kI + 1)) (nI_add _ _) ?_
  refine va_sld hx hb hX hbl hbA hS (vp_in_nI (by omega) (by omega)) dL_law_1643 ?_
  refine lv_seti (v := xs (kI + 1)) (congrArg xs (nI_clamp (by omega))) ?_
  refine lv_aload_n hx hb dL_law_1644 rfl (lv_at hl 3 rfl) ?_
  refine lv_iload_n hx hb dL_law_1645 rfl (lv_at hl 0 rfl) ?_
  refine lv_iconst (v := 2) hx hb dL_law_1646 (by decide) ?_
  refine lv_iadd hx hb dL_law_1647 ?_
  refine lv_seti (v := nI (kI + 2)) (nI_add _ _) ?_
  refine va_sld hx hb hX hbl hbA hS (vp_in_nI (by omega) (by omega)) dL_law_1648 ?_
  refine lv_seti (v := xs (kI + 2)) (congrArg xs (nI_clamp (by omega))) ?_
  replace hP : va_P G CL (((MK cy aM rR rB rO rK fMh fMo fMz gMv fMk fMa fMt kY fMr fM3 fMu fMy fMb eR tM iEn iTk uP uU kAt iTo iFr JFi iFa iSt iLv iWs wL uS0 uS1 uS2 uS3 uS4 iOm) ++ (oM cy uU)) ++ (((oL cy wL) ++ ((oM cy uP) ++ (oM cy uS0 ++ (oM cy uS1 ++ (oM cy uS2 ++ (oM cy uS3 ++ oM cy uS4)))))) ++ (XW cy aX iKp iYe iTv fX_4 tA tB iL iBs tX_5 tV fH fS fA gE kZ iT1 iT2 iT3 iT4 fB tD))) H := toUP hP
  replace hD : va_D A (((MK cy aM rR rB rO rK fMh fMo fMz gMv fMk fMa fMt kY fMr fM3 fMu fMy fMb eR tM iEn iTk uP uU kAt iTo iFr JFi iFa iSt iLv iWs wL uS0 uS1 uS2 uS3 uS4 iOm) ++ (oM cy uU)) ++ (((oL cy wL) ++ ((oM cy uP) ++ (oM cy uS0 ++ (oM cy uS1 ++ (oM cy uS2 ++ (oM cy uS3 ++ oM cy uS4)))))) ++ (XW cy aX iKp iYe iTv fX_4 tA tB iL iBs tX_5 tV fH fS fA gE kZ iT1 iT2 iT3 iT4 fB tD))) := toUD hD
  refine cViPQ (As := [.int (xs (kI + 1)), .int (xs (kI + 2))]) (rest := []) (b := (aM 0)) (q := (RX6, TX6, 35)) ⟨hx, hb, hml, hown, hts⟩ (p_X6_judge l G cy (H).size (aM 0) (aM 1) (aM 2) (aM 3) (aM 14) (aM 4) (aM 5) (aM 6) (aM 7) kY (aM 8) tM (aM 15) (aM 16) (aM 17) iEn iTk uP uU kAt iTo iFr JFi iFa (aM 9) iSt iLv iWs (ovL wL) (aM 10) (aM 11) (aM 12) (aM 13) iOm fMh fMz rR eR fMr rB rO rK (xs (kI + 1)) (xs (kI + 2)) hsM.1.1.1 hsM.1.1.2 hsM.1 hsM.2.2.1) L_L_191 hN hP hD hS hA [0, 1, 3, 14, 15, 16, 17, 18, 19, 20, 21, 22, 8, 23, 24, 25, 26, 27, 28, 29, 30, 31, 32, 33, 34, 35, 36, 37, 38, 39, 40, 41, 42, 43, 44, 45, 46, 47, 48, 49] [false, false, true, false, true, true, true, true, false, true, true, true, true, true, false, false, false, false, false, false, false, false, false, false, false, false, false, false, false, false, false, false, false, false, false, false, false, false, false, false, false, false, false, false, false, false, false, false, false, false] rfl (by decide +kernel) rfl 0 5 rfl rfl rfl ⟨Nat.le_of_ble_eq_true rfl, Nat.le_of_ble_eq_true rfl⟩ hl.1 (Nat.le_of_ble_eq_true rfl) dL_law_1649 ⟨by show nC + 0 + 50 ≤ 600000; omega, by show nS + 0 + 888 ≤ 7302250; omega⟩ (fun r_6 u_8 H locs h_7 => ?_)
  clear hP hD hS
  intro hP hD hS
  obtain ⟨fNr_9, uN_10, rfl, h_7⟩ := h_7
  replace hP := as1P hP
  replace hD := as1D hD
  replace hP : va_P G CL ((MK cy aM rR rB rO rK fMh fMo fMz gMv fMk fMa fMt kY fNr_9 fM3 fMu fMy fMb eR tM iEn iTk uP uN_10 kAt iTo iFr JFi iFa iSt iLv iWs wL uS0 uS1 uS2 uS3 uS4 iOm) ++ ((oM cy uN_10) ++ (((oL cy wL) ++ ((oM cy uP) ++ (oM cy uS0 ++ (oM cy uS1 ++ (oM cy uS2 ++ (oM cy uS3 ++ oM cy uS4)))))) ++ (XW cy aX iKp iYe iTv fX_4 tA tB iL iBs tX_5 tV fH fS fA gE kZ iT1 iT2 iT3 iT4 fB tD)))) H := hP.part [10, 11, 0, 12, 1, 2, 3, 4, 22, 5, 6, 7, 8, 9, 13, 14, 15, 16, 17, 18, 19, 20, 21, 23, 24, 25, 26, 27, 28, 29, 30, 31, 32, 33, 34, 35, 36, 37, 38, 39, 40, 41, 42, 43, 44, 45, 46, 47, 48, 49] rfl
  replace hD : va_D A ((MK cy aM rR rB rO rK fMh fMo fMz gMv fMk fMa fMt kY fNr_9 fM3 fMu fMy fMb eR tM iEn iTk uP uN_10 kAt iTo iFr JFi iFa iSt iLv iWs wL uS0 uS1 uS2 uS3 uS4 iOm) ++ ((oM cy uN_10) ++ (((oL cy wL) ++ ((oM cy uP) ++ (oM cy uS0 ++ (oM cy uS1 ++ (oM cy uS2 ++ (oM cy uS3 ++ oM cy uS4)))))) ++ (XW cy aX iKp iYe iTv fX_4 tA tB iL iBs tX_5 tV fH fS fA gE kZ iT1 iT2 iT3 iT4 fB tD)))) := hD.part [10, 11, 0, 12, 1, 2, 3, 4, 22, 5, 6, 7, 8, 9, 13, 14, 15, 16, 17, 18, 19, 20, 21, 23, 24, 25, 26, 27, 28, 29, 30, 31, 32, 33, 34, 35, 36, 37, 38, 39, 40, 41, 42, 43, 44, 45, 46, 47, 48, 49] (by decide +kernel) rfl
  replace hP : va_P G CL ((XW cy aX iKp iYe iTv fX_4 tA tB iL iBs tX_5 tV fH fS fA gE kZ iT1 iT2 iT3 iT4 fB tD) ++ ((MK cy aM rR rB rO rK fMh fMo fMz gMv fMk fMa fMt kY fNr_9 fM3 fMu fMy fMb eR tM iEn iTk uP uN_10 kAt iTo iFr JFi iFa iSt iLv iWs wL uS0 uS1 uS2 uS3 uS4 iOm) ++ ((oM cy uN_10) ++ ((oL cy wL) ++ ((oM cy uP) ++ (oM cy uS0 ++ (oM cy uS1 ++ (oM cy uS2 ++ (oM cy uS3 ++ oM cy uS4))))))))) H := ofUP hP
  replace hD : va_D A ((XW cy aX iKp iYe iTv fX_4 tA tB iL iBs tX_5 tV fH fS fA gE kZ iT1 iT2 iT3 iT4 fB tD) ++ ((MK cy aM rR rB rO rK fMh fMo fMz gMv fMk fMa fMt kY fNr_9 fM3 fMu fMy fMb eR tM iEn iTk uP uN_10 kAt iTo iFr JFi iFa iSt iLv iWs wL uS0 uS1 uS2 uS3 uS4 iOm) ++ ((oM cy uN_10) ++ ((oL cy wL) ++ ((oM cy uP) ++ (oM cy uS0 ++ (oM cy uS1 ++ (oM cy uS2 ++ (oM cy uS3 ++ oM cy uS4))))))))) := ofUD hD
  refine lv_pop hx hb dL_law_1652 rfl ?_
  refine lv_goto (tgt := 1807) hx hb dL_law_1653 (by decide) ?_
  refine W.widen (k := nC + 250) (n := nS + 4440) (by omega) (by omega) ?_
  exact kk _ _ ⟨iKp, iYe, iTv, fX_4, tA, tB, iL, iBs, tX_5, tV, fH, fS, fA, gE, kZ, iT1, iT2, iT3, iT4, fB, tD, fMh, fMo, fMz, gMv, fMk, fMa, fMt, kY, fNr_9, fM3, fMu, fMy, fMb, eR, tM, iEn, iTk, uP, uN_10, kAt, iTo, iFr, JFi, iFa, iSt, iLv, iWs, wL, uS0, uS1, uS2, uS3, uS4, iOm, hP, hD, hsX, hsM, trivial⟩ hS
set_option maxHeartbeats 4000000 in
set_option maxRecDepth 100000 in
theorem law_42 {p : Program} {l : Launch} {e : Env} {s : State} {m : MethodId} {below : List Frame} {meth : Method} {c : Code} {b L : Nat} {xs : Nat → Int32} {A : Nat → Prop} {G : va_G} {cy : Nat → ClassId} {aX aM rR rB rO rK : Nat → Nat} (hx : p.tables.exec = Jvm.exec) (hb : c.code = code) (hr : meth.sig.returnType = ret) (hml : c.maxLocals = 4) (hown : s.vm.findClass RL = some m.cls) (hts : ∀ w ∈ BIG, w.before #[Value.ref b] s = true) (hX : va_X b L xs s s.heap) (hbl : b < s.heap.size) (hlocks : meth.locks = false) (hN : KN G cy s) (hA : ∀ q : Nat, s.heap.size ≤ q → A q) (hAn : ∀ q : Nat, A q → s.heap.size ≤ q) (hbA : ¬ A b) (hSO : SO A s s.heap) {H : Heap} {locs : List Loc} {ls : Array Slot} {kI nC nS : Nat} (hkI : kI + 6 ≤ L) (hL : L ≤ 384) (hnC : nC + 250 ≤ 600000) (hnS : nS + 4440 ≤ 7302250) (hI : LINV G cy A H aX aM rR rB rO rK) (hS : va_S A s.heap H locs) (hl : lv_has ls 4 [(3, .int (nI kI)), (2, .ref (aM 0)), (1, .ref (aX 0)), (0, .ref b)]) (kk : ∀ (H : Heap) (locs : List Loc), LINV G cy A H aX aM rR rB rO rK → va_S A s.heap H locs → W p l e room_1 s m #[Value.ref b] below meth c H locs (nC + 250) (nS + 4440) (lw_Z below #[Value.ref b] s) (F0 m 1807 ls [])) : W p l e room_1 s m #[Value.ref b] below meth c H locs nC nS (lw_Z below #[Value.ref b] s) (F0 m 1656 ls []) := by
  obtain ⟨iKp, iYe, iTv, fR, tA, tB, iL, iBs, tU, tV, fH, fS, fA, gE, kZ, iT1, iT2, iT3, iT4, fB, tD, fMh, fMo, fMz, gMv, fMk, fMa, fMt, kY, fMr, fM3, fMu, fMy, fMb, eR, tM, iEn, iTk, uP, uU, kAt, iTo, iFr, JFi, iFa, iSt, iLv, iWs, wL, uS0, uS1, uS2, uS3, uS4, iOm, hP, hD, hsX, hsM, hLR⟩ := hI
  refine lv_aload_n hx hb dL_law_1656 rfl (lv_at hl 2 rfl) ?_
  refine lv_aload_n hx hb dL_law_1657 rfl (lv_at hl 3 rfl) ?_
  refine lv_iload_n hx hb dL_law_1658 rfl (lv_at hl 0 rfl) ?_
  refine lv_iconst (v := 1) hx hb dL_law_1659 (by decide) ?_
  refine lv_iadd hx hb dL_law_1660 ?_
  refine lv_seti (v := nI (kI + 1)) (nI_add _ _) ?_
  refine va_sld hx hb hX hbl hbA hS (vp_in_nI (by omega) (by omega)) dL_law_1661 ?_
  refine lv_seti (v := xs (kI + 1)) (congrArg xs (nI_clamp (by omega))) ?_
  refine lv_aload_n hx hb dL_law_1662 rfl (lv_at hl 3 rfl) ?_
  refine lv_iload_n hx hb dL_law_1663 rfl (lv_at hl 0 rfl) ?_
  refine lv_iconst (v := 2) hx hb dL_law_1664 (by decide) ?_
  refine lv_iadd hx hb dL_law_1665 ?_
  refine lv_seti (v := nI (kI + 2)) (nI_add _ _) ?_
  refine va_sld hx hb hX hbl hbA hS (vp_in_nI (by omega) (by omega)) dL_law_1666 ?_
  refine lv_seti (v := xs (kI + 2)) (congrArg xs (nI_clamp (by omega))) ?_
  refine cViQ (As := [.int (xs (kI + 1)), .int (xs (kI + 2))]) (rest := []) (b := (aX 0)) (q := (RX5, TX5, 9)) ⟨hx, hb, hml, hown, hts⟩ (p_X5_told l G cy (H).size (aX 0) (aX 2) (aX 11) (aX 20) (aX 39) (aX 44) (aX 1) iKp iYe iTv fR (aX 40) (aX 41) (aX 42) (aX 43) fH fS gE tA (aX 3) (aX 4) (aX 5) (aX 6) (aX 7) (aX 8) (aX 9) (aX 10) (aX 21) (aX 30) iL iBs tU (aX 22) (aX 23) (aX 24) (aX 25) (aX 26) (aX 27) (aX 28) (aX 29) (xs (kI + 1)) (xs (kI + 2)) hsX.1.1 hsX.1.2 hsX.2.2.2.1) L_L_192 hN hP hD hS hA [0, 1, 39, 40, 41, 43, 2, 3, 4, 5, 6, 7, 8, 9, 10, 20, 21, 22, 23, 24, 25, 26, 27, 28, 29] [false, false, false, false, false, false, false, false, false, false, false, true, true, true, true, true, true, true, true, true, false, false, false, false, false, false, false, false, false, false, true, true, true, true, true, true, true, true, true, false, false, false, true, false, true, true, true, true, true, true, true, true, true, true, true] rfl (by decide +kernel) rfl 0 4 rfl rfl rfl ⟨Nat.le_of_ble_eq_true rfl, Nat.le_of_ble_eq_true rfl⟩ hl.1 (Nat.le_of_ble_eq_true rfl) dL_law_1667 ⟨by show nC + 0 ≤ 600000; omega, by show nS + 0 ≤ 7302250; omega⟩ (fun r_1 u_3 H locs h_2 => ?_)
  clear hP hD hS
  intro hP hD hS
  obtain ⟨fX_4, tX_5, rfl, h_2⟩ := h_2
  replace hP : va_P G CL ((XW cy aX iKp iYe iTv fX_4 tA tB iL iBs tX_5 tV fH fS fA gE kZ iT1 iT2 iT3 iT4 fB tD) ++ ((MK cy aM rR rB rO rK fMh fMo fMz gMv fMk fMa fMt kY fMr fM3 fMu fMy fMb eR tM iEn iTk uP uU kAt iTo iFr JFi iFa iSt iLv iWs wL uS0 uS1 uS2 uS3 uS4 iOm) ++ ((oM cy uU) ++ ((oL cy wL) ++ ((oM cy uP) ++ (oM cy uS0 ++ (oM cy uS1 ++ (oM cy uS2 ++ (oM cy uS3 ++ oM cy uS4))))))))) H := hP.part [30, 31, 36, 37, 38, 39, 40, 41, 42, 43, 44, 0, 1, 2, 3, 4, 5, 6, 7, 8, 45, 46, 47, 48, 49, 50, 51, 52, 53, 54, 9, 10, 11, 12, 13, 14, 15, 16, 17, 32, 33, 34, 18, 35, 19, 20, 21, 22, 23, 24, 25, 26, 27, 28, 29] rfl
  replace hD : va_D A ((XW cy aX iKp iYe iTv fX_4 tA tB iL iBs tX_5 tV fH fS fA gE kZ iT1 iT2 iT3 iT4 fB tD) ++ ((MK cy aM rR rB rO rK fMh fMo fMz gMv fMk fMa fMt kY fMr fM3 fMu fMy fMb eR tM iEn iTk uP uU kAt iTo iFr JFi iFa iSt iLv iWs wL uS0 uS1 uS2 uS3 uS4 iOm) ++ ((oM cy uU) ++ ((oL cy wL) ++ ((oM cy uP) ++ (oM cy uS0 ++ (oM cy uS1 ++ (oM cy uS2 ++ (oM cy uS3 ++ oM cy uS4))))))))) := hD.part [30, 31, 36, 37, 38, 39, 40, 41, 42, 43, 44, 0, 1, 2, 3, 4, 5, 6, 7, 8, 45, 46, 47, 48, 49, 50, 51, 52, 53, 54, 9, 10, 11, 12, 13, 14, 15, 16, 17, 32, 33, 34, 18, 35, 19, 20, 21, 22, 23, 24, 25, 26, 27, 28, 29] (by decide +kernel) rfl
  refine lv_pop hx hb dL_law_1670 rfl ?_
  refine lv_aload_n hx hb dL_law_1671 rfl (lv_at hl 1 rfl) ?_
  refine lv_aload_n hx hb dL_law_1672 rfl (lv_at hl 3 rfl) ?_
  refine lv_iload_n hx hb dL_law_1673 rfl (lv_at hl 0 rfl) ?_
  refine lv_iconst (v := 1) hx hb dL_law_1674 (by decide) ?_
  refine lv_iadd hx hb dL_law_1675 ?_
  refine lv_seti (v := nI (kI + 1)) (nI_add _ _) ?_
  refine va_sld hx hb hX hbl hbA hS (vp_in_nI (by omega) (by omega)) dL_law_1676 ?_
  refine lv_seti (v := xs (kI + 1)) (congrArg xs (nI_clamp (by omega))) ?_
  refine lv_aload_n hx hb dL_law_1677 rfl (lv_at hl 3 rfl) ?_
  refine lv_iload_n hx hb dL_law_1678 rfl (lv_at hl 0 rfl) ?_
  refine lv_iconst (v := 2) hx hb dL_law_1679 (by decide) ?_
  refine lv_iadd hx hb dL_law_1680 ?_
  refine lv_seti (v := nI (kI + 2)) (nI_add _ _) ?_
  refine va_sld hx hb hX hbl hbA hS (vp_in_nI (by omega) (by omega)) dL_law_1681 ?_
  refine lv_seti (v := xs (kI + 2)) (congrArg xs (nI_clamp (by omega))) ?_
  replace hP : va_P G CL (((MK cy aM rR rB rO rK fMh fMo fMz gMv fMk fMa fMt kY fMr fM3 fMu fMy fMb eR tM iEn iTk uP uU kAt iTo iFr JFi iFa iSt iLv iWs wL uS0 uS1 uS2 uS3 uS4 iOm) ++ (oM cy uU)) ++ (((oL cy wL) ++ ((oM cy uP) ++ (oM cy uS0 ++ (oM cy uS1 ++ (oM cy uS2 ++ (oM cy uS3 ++ oM cy uS4)))))) ++ (XW cy aX iKp iYe iTv fX_4 tA tB iL iBs tX_5 tV fH fS fA gE kZ iT1 iT2 iT3 iT4 fB tD))) H := toUP hP
  replace hD : va_D A (((MK cy aM rR rB rO rK fMh fMo fMz gMv fMk fMa fMt kY fMr fM3 fMu fMy fMb eR tM iEn iTk uP uU kAt iTo iFr JFi iFa iSt iLv iWs wL uS0 uS1 uS2 uS3 uS4 iOm) ++ (oM cy uU)) ++ (((oL cy wL) ++ ((oM cy uP) ++ (oM cy uS0 ++ (oM cy uS1 ++ (oM cy uS2 ++ (oM cy uS3 ++ oM cy uS4)))))) ++ (XW cy aX iKp iYe iTv fX_4 tA tB iL iBs tX_5 tV fH fS fA gE kZ iT1 iT2 iT3 iT4 fB tD))) := toUD hD
  refine cViPQ (As := [.int (xs (kI + 1)), .int (xs (kI + 2))]) (rest := []) (b := (aM 0)) (q := (RX6, TX6, 35)) ⟨hx, hb, hml, hown, hts⟩ (p_X6_told l G cy (H).size (aM 0) (aM 1) (aM 2) (aM 3) (aM 14) (aM 4) (aM 5) (aM 6) (aM 7) kY (aM 8) tM (aM 15) (aM 16) (aM 17) iEn iTk uP uU kAt iTo iFr JFi iFa (aM 9) iSt iLv iWs (ovL wL) (aM 10) (aM 11) (aM 12) (aM 13) iOm fMh fMz rR eR fMr rB rO rK (xs (kI + 1)) (xs (kI + 2)) hsM.1.1.1 hsM.1.1.2 hsM.1 hsM.2.2.1) L_L_195 hN hP hD hS hA [0, 1, 3, 14, 15, 16, 17, 18, 19, 20, 21, 22, 8, 23, 24, 25, 26, 27, 28, 29, 30, 31, 32, 33, 34, 35, 36, 37, 38, 39, 40, 41, 42, 43, 44, 45, 46, 47, 48, 49] [false, false, true, false, true, true, true, true, false, true, true, true, true, true, false, false, false, false, false, false, false, false, false, false, false, false, false, false, false, false, false, false, false, false, false, false, false, false, false, false, false, false, false, false, false, false, false, false, false, false] rfl (by decide +kernel) rfl 0 5 rfl rfl rfl ⟨Nat.le_of_ble_eq_true rfl, Nat.le_of_ble_eq_true rfl⟩ hl.1 (Nat.le_of_ble_eq_true rfl) dL_law_1682 ⟨by show nC + 0 + 50 ≤ 600000; omega, by show nS + 0 + 888 ≤ 7302250; omega⟩ (fun r_6 u_8 H locs h_7 => ?_)
  clear hP hD hS
  intro hP hD hS
  obtain ⟨fNr_9, uN_10, rfl, h_7⟩ := h_7
  replace hP := as1P hP
  replace hD := as1D hD
  replace hP : va_P G CL ((MK cy aM rR rB rO rK fMh fMo fMz gMv fMk fMa fMt kY fNr_9 fM3 fMu fMy fMb eR tM iEn iTk uP uN_10 kAt iTo iFr JFi iFa iSt iLv iWs wL uS0 uS1 uS2 uS3 uS4 iOm) ++ ((oM cy uN_10) ++ (((oL cy wL) ++ ((oM cy uP) ++ (oM cy uS0 ++ (oM cy uS1 ++ (oM cy uS2 ++ (oM cy uS3 ++ oM cy uS4)))))) ++ (XW cy aX iKp iYe iTv fX_4 tA tB iL iBs tX_5 tV fH fS fA gE kZ iT1 iT2 iT3 iT4 fB tD)))) H := hP.part [10, 11, 0, 12, 1, 2, 3, 4, 22, 5, 6, 7, 8, 9, 13, 14, 15, 16, 17, 18, 19, 20, 21, 23, 24, 25, 26, 27, 28, 29, 30, 31, 32, 33, 34, 35, 36, 37, 38, 39, 40, 41, 42, 43, 44, 45, 46, 47, 48, 49] rfl
  replace hD : va_D A ((MK cy aM rR rB rO rK fMh fMo fMz gMv fMk fMa fMt kY fNr_9 fM3 fMu fMy fMb eR tM iEn iTk uP uN_10 kAt iTo iFr JFi iFa iSt iLv iWs wL uS0 uS1 uS2 uS3 uS4 iOm) ++ ((oM cy uN_10) ++ (((oL cy wL) ++ ((oM cy uP) ++ (oM cy uS0 ++ (oM cy uS1 ++ (oM cy uS2 ++ (oM cy uS3 ++ oM cy uS4)))))) ++ (XW cy aX iKp iYe iTv fX_4 tA tB iL iBs tX_5 tV fH fS fA gE kZ iT1 iT2 iT3 iT4 fB tD)))) := hD.part [10, 11, 0, 12, 1, 2, 3, 4, 22, 5, 6, 7, 8, 9, 13, 14, 15, 16, 17, 18, 19, 20, 21, 23, 24, 25, 26, 27, 28, 29, 30, 31, 32, 33, 34, 35, 36, 37, 38, 39, 40, 41, 42, 43, 44, 45, 46, 47, 48, 49] (by decide +kernel) rfl
  replace hP : va_P G CL ((XW cy aX iKp iYe iTv fX_4 tA tB iL iBs tX_5 tV fH fS fA gE kZ iT1 iT2 iT3 iT4 fB tD) ++ ((MK cy aM rR rB rO rK fMh fMo fMz gMv fMk fMa fMt kY fNr_9 fM3 fMu fMy fMb eR tM iEn iTk uP uN_10 kAt iTo iFr JFi iFa iSt iLv iWs wL uS0 uS1 uS2 uS3 uS4 iOm) ++ ((oM cy uN_10) ++ ((oL cy wL) ++ ((oM cy uP) ++ (oM cy uS0 ++ (oM cy uS1 ++ (oM cy uS2 ++ (oM cy uS3 ++ oM cy uS4))))))))) H := ofUP hP
  replace hD : va_D A ((XW cy aX iKp iYe iTv fX_4 tA tB iL iBs tX_5 tV fH fS fA gE kZ iT1 iT2 iT3 iT4 fB tD) ++ ((MK cy aM rR rB rO rK fMh fMo fMz gMv fMk fMa fMt kY fNr_9 fM3 fMu fMy fMb eR tM iEn iTk uP uN_10 kAt iTo iFr JFi iFa iSt iLv iWs wL uS0 uS1 uS2 uS3 uS4 iOm) ++ ((oM cy uN_10) ++ ((oL cy wL) ++ ((oM cy uP) ++ (oM cy uS0 ++ (oM cy uS1 ++ (oM cy uS2 ++ (oM cy uS3 ++ oM cy uS4))))))))) := ofUD hD
  refine lv_pop hx hb dL_law_1685 rfl ?_
  refine lv_goto (tgt := 1807) hx hb dL_law_1686 (by decide) ?_
  refine W.widen (k := nC + 250) (n := nS + 4440) (by omega) (by omega) ?_
  exact kk _ _ ⟨iKp, iYe, iTv, fX_4, tA, tB, iL, iBs, tX_5, tV, fH, fS, fA, gE, kZ, iT1, iT2, iT3, iT4, fB, tD, fMh, fMo, fMz, gMv, fMk, fMa, fMt, kY, fNr_9, fM3, fMu, fMy, fMb, eR, tM, iEn, iTk, uP, uN_10, kAt, iTo, iFr, JFi, iFa, iSt, iLv, iWs, wL, uS0, uS1, uS2, uS3, uS4, iOm, hP, hD, hsX, hsM, trivial⟩ hS
set_option maxHeartbeats 4000000 in
set_option maxRecDepth 100000 in
theorem law_43 {p : Program} {l : Launch} {e : Env} {s : State} {m : MethodId} {below : List Frame} {meth : Method} {c : Code} {b L : Nat} {xs : Nat → Int32} {A : Nat → Prop} {G : va_G} {cy : Nat → ClassId} {aX aM rR rB rO rK : Nat → Nat} (hx : p.tables.exec = Jvm.exec) (hb : c.code = code) (hr : meth.sig.returnType = ret) (hml : c.maxLocals = 4) (hown : s.vm.findClass RL = some m.cls) (hts : ∀ w ∈ BIG, w.before #[Value.ref b] s = true) (hX : va_X b L xs s s.heap) (hbl : b < s.heap.size) (hlocks : meth.locks = false) (hN : KN G cy s) (hA : ∀ q : Nat, s.heap.size ≤ q → A q) (hAn : ∀ q : Nat, A q → s.heap.size ≤ q) (hbA : ¬ A b) (hSO : SO A s s.heap) {H : Heap} {locs : List Loc} {ls : Array Slot} {kI nC nS : Nat} (hkI : kI + 6 ≤ L) (hL : L ≤ 384) (hnC : nC + 250 ≤ 600000) (hnS : nS + 4440 ≤ 7302250) (hI : LINV G cy A H aX aM rR rB rO rK) (hS : va_S A s.heap H locs) (hl : lv_has ls 4 [(3, .int (nI kI)), (2, .ref (aM 0)), (1, .ref (aX 0)), (0, .ref b)]) (kk : ∀ (H : Heap) (locs : List Loc), LINV G cy A H aX aM rR rB rO rK → va_S A s.heap H locs → W p l e room_1 s m #[Value.ref b] below meth c H locs (nC + 250) (nS + 4440) (lw_Z below #[Value.ref b] s) (F0 m 1807 ls [])) : W p l e room_1 s m #[Value.ref b] below meth c H locs nC nS (lw_Z below #[Value.ref b] s) (F0 m 1689 ls []) := by
  obtain ⟨iKp, iYe, iTv, fR, tA, tB, iL, iBs, tU, tV, fH, fS, fA, gE, kZ, iT1, iT2, iT3, iT4, fB, tD, fMh, fMo, fMz, gMv, fMk, fMa, fMt, kY, fMr, fM3, fMu, fMy, fMb, eR, tM, iEn, iTk, uP, uU, kAt, iTo, iFr, JFi, iFa, iSt, iLv, iWs, wL, uS0, uS1, uS2, uS3, uS4, iOm, hP, hD, hsX, hsM, hLR⟩ := hI
  refine lv_aload_n hx hb dL_law_1689 rfl (lv_at hl 2 rfl) ?_
  refine lv_aload_n hx hb dL_law_1690 rfl (lv_at hl 3 rfl) ?_
  refine lv_iload_n hx hb dL_law_1691 rfl (lv_at hl 0 rfl) ?_
  refine lv_iconst (v := 1) hx hb dL_law_1692 (by decide) ?_
  refine lv_iadd hx hb dL_law_1693 ?_
  refine lv_seti (v := nI (kI + 1)) (nI_add _ _) ?_
  refine va_sld hx hb hX hbl hbA hS (vp_in_nI (by omega) (by omega)) dL_law_1694 ?_
  refine lv_seti (v := xs (kI + 1)) (congrArg xs (nI_clamp (by omega))) ?_
  refine lv_aload_n hx hb dL_law_1695 rfl (lv_at hl 3 rfl) ?_
  refine lv_iload_n hx hb dL_law_1696 rfl (lv_at hl 0 rfl) ?_
  refine lv_iconst (v := 2) hx hb dL_law_1697 (by decide) ?_
  refine lv_iadd hx hb dL_law_1698 ?_
  refine lv_seti (v := nI (kI + 2)) (nI_add _ _) ?_
  refine va_sld hx hb hX hbl hbA hS (vp_in_nI (by omega) (by omega)) dL_law_1699 ?_
  refine lv_seti (v := xs (kI + 2)) (congrArg xs (nI_clamp (by omega))) ?_
  refine cViQ (As := [.int (xs (kI + 1)), .int (xs (kI + 2))]) (rest := []) (b := (aX 0)) (q := (RX5, TX5, 9)) ⟨hx, hb, hml, hown, hts⟩ (p_X5_years l G cy (H).size (aX 0) (aX 2) (aX 11) (aX 20) (aX 39) (aX 44) (aX 1) iKp iYe iTv fR (aX 40) (aX 41) (aX 42) (aX 43) fH fA tA (aX 3) (aX 4) (aX 5) (aX 6) (aX 7) (aX 8) (aX 9) (aX 10) (xs (kI + 1)) (xs (kI + 2)) hsX.1.1 hsX.1.2) L_L_196 hN hP hD hS hA [0, 1, 39, 40, 42, 2, 3, 4, 5, 6, 7, 8, 9, 10] [false, false, false, false, false, false, false, false, false, false, false, true, true, true, true, true, true, true, true, true, true, true, true, true, true, true, true, true, true, true, true, true, true, true, true, true, true, true, true, false, false, true, false, true, true, true, true, true, true, true, true, true, true, true, true] rfl (by decide +kernel) rfl 0 4 rfl rfl rfl ⟨Nat.le_of_ble_eq_true rfl, Nat.le_of_ble_eq_true rfl⟩ hl.1 (Nat.le_of_ble_eq_true rfl) dL_law_1700 ⟨by show nC + 0 ≤ 600000; omega, by show nS + 0 ≤ 7302250; omega⟩ (fun r_1 u_3 H locs h_2 => ?_)
  clear hP hD hS
  intro hP hD hS
  obtain ⟨iX_4, iX_5, iX_6, fX_7, tN_8, rfl, h_9, h_2⟩ := h_2
  replace hP : va_P G CL ((XW cy aX iX_4 iX_5 iX_6 fX_7 tN_8 tB iL iBs tU tV fH fS fA gE kZ iT1 iT2 iT3 iT4 fB tD) ++ ((MK cy aM rR rB rO rK fMh fMo fMz gMv fMk fMa fMt kY fMr fM3 fMu fMy fMb eR tM iEn iTk uP uU kAt iTo iFr JFi iFa iSt iLv iWs wL uS0 uS1 uS2 uS3 uS4 iOm) ++ ((oM cy uU) ++ ((oL cy wL) ++ ((oM cy uP) ++ (oM cy uS0 ++ (oM cy uS1 ++ (oM cy uS2 ++ (oM cy uS3 ++ oM cy uS4))))))))) H := hP.part [41, 42, 46, 47, 48, 49, 50, 51, 52, 53, 54, 0, 1, 2, 3, 4, 5, 6, 7, 8, 9, 10, 11, 12, 13, 14, 15, 16, 17, 18, 19, 20, 21, 22, 23, 24, 25, 26, 27, 43, 44, 28, 45, 29, 30, 31, 32, 33, 34, 35, 36, 37, 38, 39, 40] rfl
  replace hD : va_D A ((XW cy aX iX_4 iX_5 iX_6 fX_7 tN_8 tB iL iBs tU tV fH fS fA gE kZ iT1 iT2 iT3 iT4 fB tD) ++ ((MK cy aM rR rB rO rK fMh fMo fMz gMv fMk fMa fMt kY fMr fM3 fMu fMy fMb eR tM iEn iTk uP uU kAt iTo iFr JFi iFa iSt iLv iWs wL uS0 uS1 uS2 uS3 uS4 iOm) ++ ((oM cy uU) ++ ((oL cy wL) ++ ((oM cy uP) ++ (oM cy uS0 ++ (oM cy uS1 ++ (oM cy uS2 ++ (oM cy uS3 ++ oM cy uS4))))))))) := hD.part [41, 42, 46, 47, 48, 49, 50, 51, 52, 53, 54, 0, 1, 2, 3, 4, 5, 6, 7, 8, 9, 10, 11, 12, 13, 14, 15, 16, 17, 18, 19, 20, 21, 22, 23, 24, 25, 26, 27, 43, 44, 28, 45, 29, 30, 31, 32, 33, 34, 35, 36, 37, 38, 39, 40] (by decide +kernel) rfl
  refine lv_pop hx hb dL_law_1703 rfl ?_
  refine lv_aload_n hx hb dL_law_1704 rfl (lv_at hl 1 rfl) ?_
  refine lv_aload_n hx hb dL_law_1705 rfl (lv_at hl 3 rfl) ?_
  refine lv_iload_n hx hb dL_law_1706 rfl (lv_at hl 0 rfl) ?_
  refine lv_iconst (v := 1) hx hb dL_law_1707 (by decide) ?_
  refine lv_iadd hx hb dL_law_1708 ?_
  refine lv_seti (v := nI (kI + 1)) (nI_add _ _) ?_
  refine va_sld hx hb hX hbl hbA hS (vp_in_nI (by omega) (by omega)) dL_law_1709 ?_
  refine lv_seti (v := xs (kI + 1)) (congrArg xs (nI_clamp (by omega))) ?_
  refine lv_aload_n hx hb dL_law_1710 rfl (lv_at hl 3 rfl) ?_
  refine lv_iload_n hx hb dL_law_1711 rfl (lv_at hl 0 rfl) ?_
  refine lv_iconst (v := 2) hx hb dL_law_1712 (by decide) ?_
  refine lv_iadd hx hb dL_law_1713 ?_
  refine lv_seti (v := nI (kI + 2)) (nI_add _ _) ?_
  refine va_sld hx hb hX hbl hbA hS (vp_in_nI (by omega) (by omega)) dL_law_1714 ?_
  refine lv_seti (v := xs (kI + 2)) (congrArg xs (nI_clamp (by omega))) ?_
  replace hP : va_P G CL ((MK cy aM rR rB rO rK fMh fMo fMz gMv fMk fMa fMt kY fMr fM3 fMu fMy fMb eR tM iEn iTk uP uU kAt iTo iFr JFi iFa iSt iLv iWs wL uS0 uS1 uS2 uS3 uS4 iOm) ++ (((oM cy uU) ++ ((oL cy wL) ++ ((oM cy uP) ++ (oM cy uS0 ++ (oM cy uS1 ++ (oM cy uS2 ++ (oM cy uS3 ++ oM cy uS4))))))) ++ (XW cy aX iX_4 iX_5 iX_6 fX_7 tN_8 tB iL iBs tU tV fH fS fA gE kZ iT1 iT2 iT3 iT4 fB tD))) H := toNP hP
  replace hD : va_D A ((MK cy aM rR rB rO rK fMh fMo fMz gMv fMk fMa fMt kY fMr fM3 fMu fMy fMb eR tM iEn iTk uP uU kAt iTo iFr JFi iFa iSt iLv iWs wL uS0 uS1 uS2 uS3 uS4 iOm) ++ (((oM cy uU) ++ ((oL cy wL) ++ ((oM cy uP) ++ (oM cy uS0 ++ (oM cy uS1 ++ (oM cy uS2 ++ (oM cy uS3 ++ oM cy uS4))))))) ++ (XW cy aX iX_4 iX_5 iX_6 fX_7 tN_8 tB iL iBs tU tV fH fS fA gE kZ iT1 iT2 iT3 iT4 fB tD))) := toND hD
  refine cViQ (As := [.int (xs (kI + 1)), .int (xs (kI + 2))]) (rest := []) (b := (aM 0)) (q := (RX6, TX6, 35)) ⟨hx, hb, hml, hown, hts⟩ (p_X6_years l G cy (H).size (aM 0) (aM 1) (aM 2) (aM 3) (aM 14) (aM 4) (aM 5) (aM 6) (aM 7) kY (aM 8) tM (aM 15) (aM 16) (aM 17) iEn iTk uP uU kAt iTo iFr JFi iFa (aM 9) iSt iLv iWs (ovL wL) (aM 10) (aM 11) (aM 12) (aM 13) iOm fMh fMk fMa fMr rB rO rK (xs (kI + 1)) (xs (kI + 2)) hsM.1.1.1 hsM.1.1.2 hsM.1 hsM.2.2.2.1) L_L_199 hN hP hD hS hA [0, 1, 5, 6, 8, 23, 24, 25, 26, 27, 28, 29, 30, 31, 32, 33, 34, 35, 36, 37, 38, 39, 40, 41, 42, 43, 44, 45, 46, 47, 48, 49] [false, false, true, true, true, false, false, true, false, true, true, true, true, true, true, true, true, true, true, true, true, true, true, false, false, false, false, false, false, false, false, false, false, false, false, false, false, false, false, false, false, false, false, false, false, false, false, false, false, false] rfl (by decide +kernel) rfl 0 5 rfl rfl rfl ⟨Nat.le_of_ble_eq_true rfl, Nat.le_of_ble_eq_true rfl⟩ hl.1 (Nat.le_of_ble_eq_true rfl) dL_law_1715 ⟨by show nC + 0 + 0 ≤ 600000; omega, by show nS + 0 + 0 ≤ 7302250; omega⟩ (fun r_10 u_12 H locs h_11 => ?_)
  clear hP hD hS
  intro hP hD hS
  obtain ⟨iNe_13, iNt_14, fNr_15, tN_16, rfl, h_17, h_11⟩ := h_11
  replace hP : va_P G CL ((MK cy aM rR rB rO rK fMh fMo fMz gMv fMk fMa fMt kY fNr_15 fM3 fMu fMy fMb eR tN_16 iNe_13 iNt_14 uP uU kAt iTo iFr JFi iFa iSt iLv iWs wL uS0 uS1 uS2 uS3 uS4 iOm) ++ (((oM cy uU) ++ ((oL cy wL) ++ ((oM cy uP) ++ (oM cy uS0 ++ (oM cy uS1 ++ (oM cy uS2 ++ (oM cy uS3 ++ oM cy uS4))))))) ++ (XW cy aX iX_4 iX_5 iX_6 fX_7 tN_8 tB iL iBs tU tV fH fS fA gE kZ iT1 iT2 iT3 iT4 fB tD))) H := hP.part [18, 19, 0, 1, 2, 20, 21, 3, 22, 4, 5, 6, 7, 8, 9, 10, 11, 12, 13, 14, 15, 16, 17, 23, 24, 25, 26, 27, 28, 29, 30, 31, 32, 33, 34, 35, 36, 37, 38, 39, 40, 41, 42, 43, 44, 45, 46, 47, 48, 49] rfl
  replace hD : va_D A ((MK cy aM rR rB rO rK fMh fMo fMz gMv fMk fMa fMt kY fNr_15 fM3 fMu fMy fMb eR tN_16 iNe_13 iNt_14 uP uU kAt iTo iFr JFi iFa iSt iLv iWs wL uS0 uS1 uS2 uS3 uS4 iOm) ++ (((oM cy uU) ++ ((oL cy wL) ++ ((oM cy uP) ++ (oM cy uS0 ++ (oM cy uS1 ++ (oM cy uS2 ++ (oM cy uS3 ++ oM cy uS4))))))) ++ (XW cy aX iX_4 iX_5 iX_6 fX_7 tN_8 tB iL iBs tU tV fH fS fA gE kZ iT1 iT2 iT3 iT4 fB tD))) := hD.part [18, 19, 0, 1, 2, 20, 21, 3, 22, 4, 5, 6, 7, 8, 9, 10, 11, 12, 13, 14, 15, 16, 17, 23, 24, 25, 26, 27, 28, 29, 30, 31, 32, 33, 34, 35, 36, 37, 38, 39, 40, 41, 42, 43, 44, 45, 46, 47, 48, 49] (by decide +kernel) rfl
  replace hP : va_P G CL ((XW cy aX iX_4 iX_5 iX_6 fX_7 tN_8 tB iL iBs tU tV fH fS fA gE kZ iT1 iT2 iT3 iT4 fB tD) ++ ((MK cy aM rR rB rO rK fMh fMo fMz gMv fMk fMa fMt kY fNr_15 fM3 fMu fMy fMb eR tN_16 iNe_13 iNt_14 uP uU kAt iTo iFr JFi iFa iSt iLv iWs wL uS0 uS1 uS2 uS3 uS4 iOm) ++ ((oM cy uU) ++ ((oL cy wL) ++ ((oM cy uP) ++ (oM cy uS0 ++ (oM cy uS1 ++ (oM cy uS2 ++ (oM cy uS3 ++ oM cy uS4))))))))) H := ofNP hP
  replace hD : va_D A ((XW cy aX iX_4 iX_5 iX_6 fX_7 tN_8 tB iL iBs tU tV fH fS fA gE kZ iT1 iT2 iT3 iT4 fB tD) ++ ((MK cy aM rR rB rO rK fMh fMo fMz gMv fMk fMa fMt kY fNr_15 fM3 fMu fMy fMb eR tN_16 iNe_13 iNt_14 uP uU kAt iTo iFr JFi iFa iSt iLv iWs wL uS0 uS1 uS2 uS3 uS4 iOm) ++ ((oM cy uU) ++ ((oL cy wL) ++ ((oM cy uP) ++ (oM cy uS0 ++ (oM cy uS1 ++ (oM cy uS2 ++ (oM cy uS3 ++ oM cy uS4))))))))) := ofND hD
  refine lv_pop hx hb dL_law_1718 rfl ?_
  refine lv_goto (tgt := 1807) hx hb dL_law_1719 (by decide) ?_
  refine W.widen (k := nC + 250) (n := nS + 4440) (by omega) (by omega) ?_
  exact kk _ _ ⟨iX_4, iX_5, iX_6, fX_7, tN_8, tB, iL, iBs, tU, tV, fH, fS, fA, gE, kZ, iT1, iT2, iT3, iT4, fB, tD, fMh, fMo, fMz, gMv, fMk, fMa, fMt, kY, fNr_15, fM3, fMu, fMy, fMb, eR, tN_16, iNe_13, iNt_14, uP, uU, kAt, iTo, iFr, JFi, iFa, iSt, iLv, iWs, wL, uS0, uS1, uS2, uS3, uS4, iOm, hP, hD, sx_t hsX (nb_years hsX.1 h_9.1), sm_t hsM h_17, trivial⟩ hS
set_option maxHeartbeats 4000000 in
set_option maxRecDepth 100000 in
theorem law_44 {p : Program} {l : Launch} {e : Env} {s : State} {m : MethodId} {below : List Frame} {meth : Method} {c : Code} {b L : Nat} {xs : Nat → Int32} {A : Nat → Prop} {G : va_G} {cy : Nat → ClassId} {aX aM rR rB rO rK : Nat → Nat} (hx : p.tables.exec = Jvm.exec) (hb : c.code = code) (hr : meth.sig.returnType = ret) (hml : c.maxLocals = 4) (hown : s.vm.findClass RL = some m.cls) (hts : ∀ w ∈ BIG, w.before #[Value.ref b] s = true) (hX : va_X b L xs s s.heap) (hbl : b < s.heap.size) (hlocks : meth.locks = false) (hN : KN G cy s) (hA : ∀ q : Nat, s.heap.size ≤ q → A q) (hAn : ∀ q : Nat, A q → s.heap.size ≤ q) (hbA : ¬ A b) (hSO : SO A s s.heap) {H : Heap} {locs : List Loc} {ls : Array Slot} {kI nC nS : Nat} (hkI : kI + 6 ≤ L) (hL : L ≤ 384) (hnC : nC + 250 ≤ 600000) (hnS : nS + 4440 ≤ 7302250) (hI : LINV G cy A H aX aM rR rB rO rK) (hS : va_S A s.heap H locs) (hl : lv_has ls 4 [(3, .int (nI kI)), (2, .ref (aM 0)), (1, .ref (aX 0)), (0, .ref b)]) (kk : ∀ (H : Heap) (locs : List Loc), LINV G cy A H aX aM rR rB rO rK → va_S A s.heap H locs → W p l e room_1 s m #[Value.ref b] below meth c H locs (nC + 250) (nS + 4440) (lw_Z below #[Value.ref b] s) (F0 m 1807 ls [])) : W p l e room_1 s m #[Value.ref b] below meth c H locs nC nS (lw_Z below #[Value.ref b] s) (F0 m 1722 ls []) := by
  obtain ⟨iKp, iYe, iTv, fR, tA, tB, iL, iBs, tU, tV, fH, fS, fA, gE, kZ, iT1, iT2, iT3, iT4, fB, tD, fMh, fMo, fMz, gMv, fMk, fMa, fMt, kY, fMr, fM3, fMu, fMy, fMb, eR, tM, iEn, iTk, uP, uU, kAt, iTo, iFr, JFi, iFa, iSt, iLv, iWs, wL, uS0, uS1, uS2, uS3, uS4, iOm, hP, hD, hsX, hsM, hLR⟩ := hI
  refine lv_aload_n hx hb dL_law_1722 rfl (lv_at hl 2 rfl) ?_
  refine cViQ (As := []) (rest := []) (b := (aX 0)) (q := (RX5, TX5, 9)) ⟨hx, hb, hml, hown, hts⟩ (p_X5_ends l G cy (H).size (aX 0) (aX 2) (aX 11) (aX 20) (aX 39) (aX 44) (aX 1) iKp iYe iTv tA (aX 3) (aX 4) (aX 5) (aX 6) (aX 7) (aX 8) (aX 9) (aX 10) hsX.1.1 hsX.1.2) L_L_200 hN hP hD hS hA [0, 2, 3, 4, 5, 6, 7, 8, 9, 10] [false, true, false, false, false, false, false, false, false, false, false, true, true, true, true, true, true, true, true, true, true, true, true, true, true, true, true, true, true, true, true, true, true, true, true, true, true, true, true, true, true, true, true, true, true, true, true, true, true, true, true, true, true, true, true] rfl (by decide +kernel) rfl 0 4 rfl rfl rfl ⟨Nat.le_of_ble_eq_true rfl, Nat.le_of_ble_eq_true rfl⟩ hl.1 (Nat.le_of_ble_eq_true rfl) dL_law_1723 ⟨by show nC + 0 ≤ 600000; omega, by show nS + 0 ≤ 7302250; omega⟩ (fun r_1 u_3 H locs h_2 => ?_)
  clear hP hD hS
  intro hP hD hS
  obtain ⟨iX_4, iX_5, iX_6, tN_7, rfl, h_8, h_2⟩ := h_2
  replace hP : va_P G CL ((XW cy aX iX_4 iX_5 iX_6 fR tN_7 tB iL iBs tU tV fH fS fA gE kZ iT1 iT2 iT3 iT4 fB tD) ++ ((MK cy aM rR rB rO rK fMh fMo fMz gMv fMk fMa fMt kY fMr fM3 fMu fMy fMb eR tM iEn iTk uP uU kAt iTo iFr JFi iFa iSt iLv iWs wL uS0 uS1 uS2 uS3 uS4 iOm) ++ ((oM cy uU) ++ ((oL cy wL) ++ ((oM cy uP) ++ (oM cy uS0 ++ (oM cy uS1 ++ (oM cy uS2 ++ (oM cy uS3 ++ oM cy uS4))))))))) H := hP.part [45, 0, 46, 47, 48, 49, 50, 51, 52, 53, 54, 1, 2, 3, 4, 5, 6, 7, 8, 9, 10, 11, 12, 13, 14, 15, 16, 17, 18, 19, 20, 21, 22, 23, 24, 25, 26, 27, 28, 29, 30, 31, 32, 33, 34, 35, 36, 37, 38, 39, 40, 41, 42, 43, 44] rfl
  replace hD : va_D A ((XW cy aX iX_4 iX_5 iX_6 fR tN_7 tB iL iBs tU tV fH fS fA gE kZ iT1 iT2 iT3 iT4 fB tD) ++ ((MK cy aM rR rB rO rK fMh fMo fMz gMv fMk fMa fMt kY fMr fM3 fMu fMy fMb eR tM iEn iTk uP uU kAt iTo iFr JFi iFa iSt iLv iWs wL uS0 uS1 uS2 uS3 uS4 iOm) ++ ((oM cy uU) ++ ((oL cy wL) ++ ((oM cy uP) ++ (oM cy uS0 ++ (oM cy uS1 ++ (oM cy uS2 ++ (oM cy uS3 ++ oM cy uS4))))))))) := hD.part [45, 0, 46, 47, 48, 49, 50, 51, 52, 53, 54, 1, 2, 3, 4, 5, 6, 7, 8, 9, 10, 11, 12, 13, 14, 15, 16, 17, 18, 19, 20, 21, 22, 23, 24, 25, 26, 27, 28, 29, 30, 31, 32, 33, 34, 35, 36, 37, 38, 39, 40, 41, 42, 43, 44] (by decide +kernel) rfl
  refine lv_pop hx hb dL_law_1726 rfl ?_
  refine lv_aload_n hx hb dL_law_1727 rfl (lv_at hl 1 rfl) ?_
  replace hP : va_P G CL ((MK cy aM rR rB rO rK fMh fMo fMz gMv fMk fMa fMt kY fMr fM3 fMu fMy fMb eR tM iEn iTk uP uU kAt iTo iFr JFi iFa iSt iLv iWs wL uS0 uS1 uS2 uS3 uS4 iOm) ++ (((oM cy uU) ++ ((oL cy wL) ++ ((oM cy uP) ++ (oM cy uS0 ++ (oM cy uS1 ++ (oM cy uS2 ++ (oM cy uS3 ++ oM cy uS4))))))) ++ (XW cy aX iX_4 iX_5 iX_6 fR tN_7 tB iL iBs tU tV fH fS fA gE kZ iT1 iT2 iT3 iT4 fB tD))) H := toNP hP
  replace hD : va_D A ((MK cy aM rR rB rO rK fMh fMo fMz gMv fMk fMa fMt kY fMr fM3 fMu fMy fMb eR tM iEn iTk uP uU kAt iTo iFr JFi iFa iSt iLv iWs wL uS0 uS1 uS2 uS3 uS4 iOm) ++ (((oM cy uU) ++ ((oL cy wL) ++ ((oM cy uP) ++ (oM cy uS0 ++ (oM cy uS1 ++ (oM cy uS2 ++ (oM cy uS3 ++ oM cy uS4))))))) ++ (XW cy aX iX_4 iX_5 iX_6 fR tN_7 tB iL iBs tU tV fH fS fA gE kZ iT1 iT2 iT3 iT4 fB tD))) := toND hD
  refine cViQ (As := []) (rest := []) (b := (aM 0)) (q := (RX6, TX6, 35)) ⟨hx, hb, hml, hown, hts⟩ (p_X6_ends l G cy (H).size (aM 0) (aM 1) (aM 2) (aM 3) (aM 14) (aM 4) (aM 5) (aM 6) (aM 7) kY (aM 8) tM (aM 15) (aM 16) (aM 17) iEn iTk uP uU kAt iTo iFr JFi iFa (aM 9) iSt iLv iWs (ovL wL) (aM 10) (aM 11) (aM 12) (aM 13) iOm rB rO rK hsM.1.1.1 hsM.1.1.2 hsM.1) L_L_203 hN hP hD hS hA [0, 23, 24, 25, 26, 27, 28, 29, 30, 31, 32, 33, 34, 35, 36, 37, 38, 39, 40, 41, 42, 43, 44, 45, 46, 47, 48, 49] [false, true, true, true, true, true, true, true, true, true, true, true, true, true, true, true, true, true, true, true, true, true, true, false, false, false, false, false, false, false, false, false, false, false, false, false, false, false, false, false, false, false, false, false, false, false, false, false, false, false] rfl (by decide +kernel) rfl 0 5 rfl rfl rfl ⟨Nat.le_of_ble_eq_true rfl, Nat.le_of_ble_eq_true rfl⟩ hl.1 (Nat.le_of_ble_eq_true rfl) dL_law_1728 ⟨by show nC + 0 + 0 ≤ 600000; omega, by show nS + 0 + 0 ≤ 7302250; omega⟩ (fun r_9 u_11 H locs h_10 => ?_)
  clear hP hD hS
  intro hP hD hS
  obtain ⟨iNe_12, tN_13, rfl, h_14, h_10⟩ := h_10
  replace hP : va_P G CL ((MK cy aM rR rB rO rK fMh fMo fMz gMv fMk fMa fMt kY fMr fM3 fMu fMy fMb eR tN_13 iNe_12 iTk uP uU kAt iTo iFr JFi iFa iSt iLv iWs wL uS0 uS1 uS2 uS3 uS4 iOm) ++ (((oM cy uU) ++ ((oL cy wL) ++ ((oM cy uP) ++ (oM cy uS0 ++ (oM cy uS1 ++ (oM cy uS2 ++ (oM cy uS3 ++ oM cy uS4))))))) ++ (XW cy aX iX_4 iX_5 iX_6 fR tN_7 tB iL iBs tU tV fH fS fA gE kZ iT1 iT2 iT3 iT4 fB tD))) H := hP.part [22, 0, 1, 2, 3, 4, 5, 6, 7, 8, 9, 10, 11, 12, 13, 14, 15, 16, 17, 18, 19, 20, 21, 23, 24, 25, 26, 27, 28, 29, 30, 31, 32, 33, 34, 35, 36, 37, 38, 39, 40, 41, 42, 43, 44, 45, 46, 47, 48, 49] rfl
  replace hD : va_D A ((MK cy aM rR rB rO rK fMh fMo fMz gMv fMk fMa fMt kY fMr fM3 fMu fMy fMb eR tN_13 iNe_12 iTk uP uU kAt iTo iFr JFi iFa iSt iLv iWs wL uS0 uS1 uS2 uS3 uS4 iOm) ++ (((oM cy uU) ++ ((oL cy wL) ++ ((oM cy uP) ++ (oM cy uS0 ++ (oM cy uS1 ++ (oM cy uS2 ++ (oM cy uS3 ++ oM cy uS4))))))) ++ (XW cy aX iX_4 iX_5 iX_6 fR tN_7 tB iL iBs tU tV fH fS fA gE kZ iT1 iT2 iT3 iT4 fB tD))) := hD.part [22, 0, 1, 2, 3, 4, 5, 6, 7, 8, 9, 10, 11, 12, 13, 14, 15, 16, 17, 18, 19, 20, 21, 23, 24, 25, 26, 27, 28, 29, 30, 31, 32, 33, 34, 35, 36, 37, 38, 39, 40, 41, 42, 43, 44, 45, 46, 47, 48, 49] (by decide +kernel) rfl
  replace hP : va_P G CL ((XW cy aX iX_4 iX_5 iX_6 fR tN_7 tB iL iBs tU tV fH fS fA gE kZ iT1 iT2 iT3 iT4 fB tD) ++ ((MK cy aM rR rB rO rK fMh fMo fMz gMv fMk fMa fMt kY fMr fM3 fMu fMy fMb eR tN_13 iNe_12 iTk uP uU kAt iTo iFr JFi iFa iSt iLv iWs wL uS0 uS1 uS2 uS3 uS4 iOm) ++ ((oM cy uU) ++ ((oL cy wL) ++ ((oM cy uP) ++ (oM cy uS0 ++ (oM cy uS1 ++ (oM cy uS2 ++ (oM cy uS3 ++ oM cy uS4))))))))) H := ofNP hP
  replace hD : va_D A ((XW cy aX iX_4 iX_5 iX_6 fR tN_7 tB iL iBs tU tV fH fS fA gE kZ iT1 iT2 iT3 iT4 fB tD) ++ ((MK cy aM rR rB rO rK fMh fMo fMz gMv fMk fMa fMt kY fMr fM3 fMu fMy fMb eR tN_13 iNe_12 iTk uP uU kAt iTo iFr JFi iFa iSt iLv iWs wL uS0 uS1 uS2 uS3 uS4 iOm) ++ ((oM cy uU) ++ ((oL cy wL) ++ ((oM cy uP) ++ (oM cy uS0 ++ (oM cy uS1 ++ (oM cy uS2 ++ (oM cy uS3 ++ oM cy uS4))))))))) := ofND hD
  refine lv_pop hx hb dL_law_1731 rfl ?_
  refine lv_goto (tgt := 1807) hx hb dL_law_1732 (by decide) ?_
  refine W.widen (k := nC + 250) (n := nS + 4440) (by omega) (by omega) ?_
  exact kk _ _ ⟨iX_4, iX_5, iX_6, fR, tN_7, tB, iL, iBs, tU, tV, fH, fS, fA, gE, kZ, iT1, iT2, iT3, iT4, fB, tD, fMh, fMo, fMz, gMv, fMk, fMa, fMt, kY, fMr, fM3, fMu, fMy, fMb, eR, tN_13, iNe_12, iTk, uP, uU, kAt, iTo, iFr, JFi, iFa, iSt, iLv, iWs, wL, uS0, uS1, uS2, uS3, uS4, iOm, hP, hD, sx_t hsX (by rw [h_8.1]; exact nb_zey8 hsX.1), sm_t hsM h_14, trivial⟩ hS
set_option maxHeartbeats 4000000 in
set_option maxRecDepth 100000 in
theorem law_45 {p : Program} {l : Launch} {e : Env} {s : State} {m : MethodId} {below : List Frame} {meth : Method} {c : Code} {b L : Nat} {xs : Nat → Int32} {A : Nat → Prop} {G : va_G} {cy : Nat → ClassId} {aX aM rR rB rO rK : Nat → Nat} (hx : p.tables.exec = Jvm.exec) (hb : c.code = code) (hr : meth.sig.returnType = ret) (hml : c.maxLocals = 4) (hown : s.vm.findClass RL = some m.cls) (hts : ∀ w ∈ BIG, w.before #[Value.ref b] s = true) (hX : va_X b L xs s s.heap) (hbl : b < s.heap.size) (hlocks : meth.locks = false) (hN : KN G cy s) (hA : ∀ q : Nat, s.heap.size ≤ q → A q) (hAn : ∀ q : Nat, A q → s.heap.size ≤ q) (hbA : ¬ A b) (hSO : SO A s s.heap) {H : Heap} {locs : List Loc} {ls : Array Slot} {kI nC nS : Nat} (hkI : kI + 6 ≤ L) (hL : L ≤ 384) (hnC : nC + 250 ≤ 600000) (hnS : nS + 4440 ≤ 7302250) (hI : LINV G cy A H aX aM rR rB rO rK) (hS : va_S A s.heap H locs) (hl : lv_has ls 4 [(3, .int (nI kI)), (2, .ref (aM 0)), (1, .ref (aX 0)), (0, .ref b)]) (kk : ∀ (H : Heap) (locs : List Loc), LINV G cy A H aX aM rR rB rO rK → va_S A s.heap H locs → W p l e room_1 s m #[Value.ref b] below meth c H locs (nC + 250) (nS + 4440) (lw_Z below #[Value.ref b] s) (F0 m 1807 ls [])) : W p l e room_1 s m #[Value.ref b] below meth c H locs nC nS (lw_Z below #[Value.ref b] s) (F0 m 1735 ls []) := by
  obtain ⟨iKp, iYe, iTv, fR, tA, tB, iL, iBs, tU, tV, fH, fS, fA, gE, kZ, iT1, iT2, iT3, iT4, fB, tD, fMh, fMo, fMz, gMv, fMk, fMa, fMt, kY, fMr, fM3, fMu, fMy, fMb, eR, tM, iEn, iTk, uP, uU, kAt, iTo, iFr, JFi, iFa, iSt, iLv, iWs, wL, uS0, uS1, uS2, uS3, uS4, iOm, hP, hD, hsX, hsM, hLR⟩ := hI
  refine lv_aload_n hx hb dL_law_1735 rfl (lv_at hl 2 rfl) ?_
  refine lv_aload_n hx hb dL_law_1736 rfl (lv_at hl 3 rfl) ?_
  refine lv_iload_n hx hb dL_law_1737 rfl (lv_at hl 0 rfl) ?_
  refine lv_iconst (v := 1) hx hb dL_law_1738 (by decide) ?_
  refine lv_iadd hx hb dL_law_1739 ?_
  refine lv_seti (v := nI (kI + 1)) (nI_add _ _) ?_
  refine va_sld hx hb hX hbl hbA hS (vp_in_nI (by omega) (by omega)) dL_law_1740 ?_
  refine lv_seti (v := xs (kI + 1)) (congrArg xs (nI_clamp (by omega))) ?_
  refine cViQ (As := [.int (xs (kI + 1))]) (rest := []) (b := (aX 0)) (q := (RX5, TX5, 9)) ⟨hx, hb, hml, hown, hts⟩ (p_X5_seed l G cy (H).size (aX 0) (aX 2) (aX 11) (aX 20) (aX 39) (aX 44) (aX 1) iKp iYe iTv tA (aX 3) (aX 4) (aX 5) (aX 6) (aX 7) (aX 8) (aX 9) (aX 10) (xs (kI + 1)) hsX.1.1 hsX.1.2) L_L_204 hN hP hD hS hA [0, 2, 3, 4, 5, 6, 7, 8, 9, 10] [false, true, false, false, false, false, false, false, false, false, false, true, true, true, true, true, true, true, true, true, true, true, true, true, true, true, true, true, true, true, true, true, true, true, true, true, true, true, true, true, true, true, true, true, true, true, true, true, true, true, true, true, true, true, true] rfl (by decide +kernel) rfl 0 4 rfl rfl rfl ⟨Nat.le_of_ble_eq_true rfl, Nat.le_of_ble_eq_true rfl⟩ hl.1 (Nat.le_of_ble_eq_true rfl) dL_law_1741 ⟨by show nC + 0 ≤ 600000; omega, by show nS + 0 ≤ 7302250; omega⟩ (fun r_1 u_3 H locs h_2 => ?_)
  clear hP hD hS
  intro hP hD hS
  obtain ⟨tN_4, rfl, h_5, h_2⟩ := h_2
  replace hP : va_P G CL ((XW cy aX iKp iYe iTv fR tN_4 tB iL iBs tU tV fH fS fA gE kZ iT1 iT2 iT3 iT4 fB tD) ++ ((MK cy aM rR rB rO rK fMh fMo fMz gMv fMk fMa fMt kY fMr fM3 fMu fMy fMb eR tM iEn iTk uP uU kAt iTo iFr JFi iFa iSt iLv iWs wL uS0 uS1 uS2 uS3 uS4 iOm) ++ ((oM cy uU) ++ ((oL cy wL) ++ ((oM cy uP) ++ (oM cy uS0 ++ (oM cy uS1 ++ (oM cy uS2 ++ (oM cy uS3 ++ oM cy uS4))))))))) H := hP.part [45, 0, 46, 47, 48, 49, 50, 51, 52, 53, 54, 1, 2, 3, 4, 5, 6, 7, 8, 9, 10, 11, 12, 13, 14, 15, 16, 17, 18, 19, 20, 21, 22, 23, 24, 25, 26, 27, 28, 29, 30, 31, 32, 33, 34, 35, 36, 37, 38, 39, 40, 41, 42, 43, 44] rfl
  replace hD : va_D A ((XW cy aX iKp iYe iTv fR tN_4 tB iL iBs tU tV fH fS fA gE kZ iT1 iT2 iT3 iT4 fB tD) ++ ((MK cy aM rR rB rO rK fMh fMo fMz gMv fMk fMa fMt kY fMr fM3 fMu fMy fMb eR tM iEn iTk uP uU kAt iTo iFr JFi iFa iSt iLv iWs wL uS0 uS1 uS2 uS3 uS4 iOm) ++ ((oM cy uU) ++ ((oL cy wL) ++ ((oM cy uP) ++ (oM cy uS0 ++ (oM cy uS1 ++ (oM cy uS2 ++ (oM cy uS3 ++ oM cy uS4))))))))) := hD.part [45, 0, 46, 47, 48, 49, 50, 51, 52, 53, 54, 1, 2, 3, 4, 5, 6, 7, 8, 9, 10, 11, 12, 13, 14, 15, 16, 17, 18, 19, 20, 21, 22, 23, 24, 25, 26, 27, 28, 29, 30, 31, 32, 33, 34, 35, 36, 37, 38, 39, 40, 41, 42, 43, 44] (by decide +kernel) rfl
  refine lv_pop hx hb dL_law_1744 rfl ?_
  refine lv_aload_n hx hb dL_law_1745 rfl (lv_at hl 1 rfl) ?_
  refine lv_aload_n hx hb dL_law_1746 rfl (lv_at hl 3 rfl) ?_
  refine lv_iload_n hx hb dL_law_1747 rfl (lv_at hl 0 rfl) ?_
  refine lv_iconst (v := 1) hx hb dL_law_1748 (by decide) ?_
  refine lv_iadd hx hb dL_law_1749 ?_
  refine lv_seti (v := nI (kI + 1)) (nI_add _ _) ?_
  refine va_sld hx hb hX hbl hbA hS (vp_in_nI (by omega) (by omega)) dL_law_1750 ?_
  refine lv_seti (v := xs (kI + 1)) (congrArg xs (nI_clamp (by omega))) ?_
  replace hP : va_P G CL ((MK cy aM rR rB rO rK fMh fMo fMz gMv fMk fMa fMt kY fMr fM3 fMu fMy fMb eR tM iEn iTk uP uU kAt iTo iFr JFi iFa iSt iLv iWs wL uS0 uS1 uS2 uS3 uS4 iOm) ++ (((oM cy uU) ++ ((oL cy wL) ++ ((oM cy uP) ++ (oM cy uS0 ++ (oM cy uS1 ++ (oM cy uS2 ++ (oM cy uS3 ++ oM cy uS4))))))) ++ (XW cy aX iKp iYe iTv fR tN_4 tB iL iBs tU tV fH fS fA gE kZ iT1 iT2 iT3 iT4 fB tD))) H := toNP hP
  replace hD : va_D A ((MK cy aM rR rB rO rK fMh fMo fMz gMv fMk fMa fMt kY fMr fM3 fMu fMy fMb eR tM iEn iTk uP uU kAt iTo iFr JFi iFa iSt iLv iWs wL uS0 uS1 uS2 uS3 uS4 iOm) ++ (((oM cy uU) ++ ((oL cy wL) ++ ((oM cy uP) ++ (oM cy uS0 ++ (oM cy uS1 ++ (oM cy uS2 ++ (oM cy uS3 ++ oM cy uS4))))))) ++ (XW cy aX iKp iYe iTv fR tN_4 tB iL iBs tU tV fH fS fA gE kZ iT1 iT2 iT3 iT4 fB tD))) := toND hD
  refine cViQ (As := [.int (xs (kI + 1))]) (rest := []) (b := (aM 0)) (q := (RX6, TX6, 35)) ⟨hx, hb, hml, hown, hts⟩ (p_X6_seed l G cy (H).size (aM 0) (aM 1) (aM 2) (aM 3) (aM 14) (aM 4) (aM 5) (aM 6) (aM 7) kY (aM 8) tM (aM 15) (aM 16) (aM 17) iEn iTk uP uU kAt iTo iFr JFi iFa (aM 9) iSt iLv iWs (ovL wL) (aM 10) (aM 11) (aM 12) (aM 13) iOm rB rO rK (xs (kI + 1)) hsM.1.1.1 hsM.1.1.2 hsM.1) L_L_207 hN hP hD hS hA [0, 23, 24, 25, 26, 27, 28, 29, 30, 31, 32, 33, 34, 35, 36, 37, 38, 39, 40, 41, 42, 43, 44, 45, 46, 47, 48, 49] [false, true, true, true, true, true, true, true, true, true, true, true, true, true, true, true, true, true, true, true, true, true, true, false, false, false, false, false, false, false, false, false, false, false, false, false, false, false, false, false, false, false, false, false, false, false, false, false, false, false] rfl (by decide +kernel) rfl 0 5 rfl rfl rfl ⟨Nat.le_of_ble_eq_true rfl, Nat.le_of_ble_eq_true rfl⟩ hl.1 (Nat.le_of_ble_eq_true rfl) dL_law_1751 ⟨by show nC + 0 + 0 ≤ 600000; omega, by show nS + 0 + 0 ≤ 7302250; omega⟩ (fun r_6 u_8 H locs h_7 => ?_)
  clear hP hD hS
  intro hP hD hS
  obtain ⟨tN_9, rfl, h_10, h_7⟩ := h_7
  replace hP : va_P G CL ((MK cy aM rR rB rO rK fMh fMo fMz gMv fMk fMa fMt kY fMr fM3 fMu fMy fMb eR tN_9 iEn iTk uP uU kAt iTo iFr JFi iFa iSt iLv iWs wL uS0 uS1 uS2 uS3 uS4 iOm) ++ (((oM cy uU) ++ ((oL cy wL) ++ ((oM cy uP) ++ (oM cy uS0 ++ (oM cy uS1 ++ (oM cy uS2 ++ (oM cy uS3 ++ oM cy uS4))))))) ++ (XW cy aX iKp iYe iTv fR tN_4 tB iL iBs tU tV fH fS fA gE kZ iT1 iT2 iT3 iT4 fB tD))) H := hP.part [22, 0, 1, 2, 3, 4, 5, 6, 7, 8, 9, 10, 11, 12, 13, 14, 15, 16, 17, 18, 19, 20, 21, 23, 24, 25, 26, 27, 28, 29, 30, 31, 32, 33, 34, 35, 36, 37, 38, 39, 40, 41, 42, 43, 44, 45, 46, 47, 48, 49] rfl
  replace hD : va_D A ((MK cy aM rR rB rO rK fMh fMo fMz gMv fMk fMa fMt kY fMr fM3 fMu fMy fMb eR tN_9 iEn iTk uP uU kAt iTo iFr JFi iFa iSt iLv iWs wL uS0 uS1 uS2 uS3 uS4 iOm) ++ (((oM cy uU) ++ ((oL cy wL) ++ ((oM cy uP) ++ (oM cy uS0 ++ (oM cy uS1 ++ (oM cy uS2 ++ (oM cy uS3 ++ oM cy uS4))))))) ++ (XW cy aX iKp iYe iTv fR tN_4 tB iL iBs tU tV fH fS fA gE kZ iT1 iT2 iT3 iT4 fB tD))) := hD.part [22, 0, 1, 2, 3, 4, 5, 6, 7, 8, 9, 10, 11, 12, 13, 14, 15, 16, 17, 18, 19, 20, 21, 23, 24, 25, 26, 27, 28, 29, 30, 31, 32, 33, 34, 35, 36, 37, 38, 39, 40, 41, 42, 43, 44, 45, 46, 47, 48, 49] (by decide +kernel) rfl
  replace hP : va_P G CL ((XW cy aX iKp iYe iTv fR tN_4 tB iL iBs tU tV fH fS fA gE kZ iT1 iT2 iT3 iT4 fB tD) ++ ((MK cy aM rR rB rO rK fMh fMo fMz gMv fMk fMa fMt kY fMr fM3 fMu fMy fMb eR tN_9 iEn iTk uP uU kAt iTo iFr JFi iFa iSt iLv iWs wL uS0 uS1 uS2 uS3 uS4 iOm) ++ ((oM cy uU) ++ ((oL cy wL) ++ ((oM cy uP) ++ (oM cy uS0 ++ (oM cy uS1 ++ (oM cy uS2 ++ (oM cy uS3 ++ oM cy uS4))))))))) H := ofNP hP
  replace hD : va_D A ((XW cy aX iKp iYe iTv fR tN_4 tB iL iBs tU tV fH fS fA gE kZ iT1 iT2 iT3 iT4 fB tD) ++ ((MK cy aM rR rB rO rK fMh fMo fMz gMv fMk fMa fMt kY fMr fM3 fMu fMy fMb eR tN_9 iEn iTk uP uU kAt iTo iFr JFi iFa iSt iLv iWs wL uS0 uS1 uS2 uS3 uS4 iOm) ++ ((oM cy uU) ++ ((oL cy wL) ++ ((oM cy uP) ++ (oM cy uS0 ++ (oM cy uS1 ++ (oM cy uS2 ++ (oM cy uS3 ++ oM cy uS4))))))))) := ofND hD
  refine lv_pop hx hb dL_law_1754 rfl ?_
  refine lv_goto (tgt := 1807) hx hb dL_law_1755 (by decide) ?_
  refine W.widen (k := nC + 250) (n := nS + 4440) (by omega) (by omega) ?_
  exact kk _ _ ⟨iKp, iYe, iTv, fR, tN_4, tB, iL, iBs, tU, tV, fH, fS, fA, gE, kZ, iT1, iT2, iT3, iT4, fB, tD, fMh, fMo, fMz, gMv, fMk, fMa, fMt, kY, fMr, fM3, fMu, fMy, fMb, eR, tN_9, iEn, iTk, uP, uU, kAt, iTo, iFr, JFi, iFa, iSt, iLv, iWs, wL, uS0, uS1, uS2, uS3, uS4, iOm, hP, hD, sx_t hsX (by rw [h_5.1]; exact hsX.1), sm_t hsM h_10, trivial⟩ hS
set_option maxHeartbeats 4000000 in
set_option maxRecDepth 100000 in
theorem law_46 {p : Program} {l : Launch} {e : Env} {s : State} {m : MethodId} {below : List Frame} {meth : Method} {c : Code} {b L : Nat} {xs : Nat → Int32} {A : Nat → Prop} {G : va_G} {cy : Nat → ClassId} {aX aM rR rB rO rK : Nat → Nat} (hx : p.tables.exec = Jvm.exec) (hb : c.code = code) (hr : meth.sig.returnType = ret) (hml : c.maxLocals = 4) (hown : s.vm.findClass RL = some m.cls) (hts : ∀ w ∈ BIG, w.before #[Value.ref b] s = true) (hX : va_X b L xs s s.heap) (hbl : b < s.heap.size) (hlocks : meth.locks = false) (hN : KN G cy s) (hA : ∀ q : Nat, s.heap.size ≤ q → A q) (hAn : ∀ q : Nat, A q → s.heap.size ≤ q) (hbA : ¬ A b) (hSO : SO A s s.heap) {H : Heap} {locs : List Loc} {ls : Array Slot} {kI nC nS : Nat} (hkI : kI + 6 ≤ L) (hL : L ≤ 384) (hnC : nC + 250 ≤ 600000) (hnS : nS + 4440 ≤ 7302250) (hI : LINV G cy A H aX aM rR rB rO rK) (hS : va_S A s.heap H locs) (hl : lv_has ls 4 [(3, .int (nI kI)), (2, .ref (aM 0)), (1, .ref (aX 0)), (0, .ref b)]) (kk : ∀ (H : Heap) (locs : List Loc), LINV G cy A H aX aM rR rB rO rK → va_S A s.heap H locs → W p l e room_1 s m #[Value.ref b] below meth c H locs (nC + 250) (nS + 4440) (lw_Z below #[Value.ref b] s) (F0 m 1807 ls [])) : W p l e room_1 s m #[Value.ref b] below meth c H locs nC nS (lw_Z below #[Value.ref b] s) (F0 m 1758 ls []) := by
  obtain ⟨iKp, iYe, iTv, fR, tA, tB, iL, iBs, tU, tV, fH, fS, fA, gE, kZ, iT1, iT2, iT3, iT4, fB, tD, fMh, fMo, fMz, gMv, fMk, fMa, fMt, kY, fMr, fM3, fMu, fMy, fMb, eR, tM, iEn, iTk, uP, uU, kAt, iTo, iFr, JFi, iFa, iSt, iLv, iWs, wL, uS0, uS1, uS2, uS3, uS4, iOm, hP, hD, hsX, hsM, hLR⟩ := hI
  refine lv_aload_n hx hb dL_law_1758 rfl (lv_at hl 2 rfl) ?_
  refine cViQ (As := []) (rest := []) (b := (aX 0)) (q := (RX5, TX5, 9)) ⟨hx, hb, hml, hown, hts⟩ (p_X5_image l G cy (H).size (aX 0) (aX 2) (aX 11) (aX 20) (aX 39) (aX 44) (aX 1) iKp iYe iTv tA (aX 3) (aX 4) (aX 5) (aX 6) (aX 7) (aX 8) (aX 9) (aX 10) tB (aX 12) (aX 13) (aX 14) (aX 15) (aX 16) (aX 17) (aX 18) (aX 19) hsX.1.1 hsX.1.2) L_L_208 hN hP hD hS hA [0, 2, 3, 4, 5, 6, 7, 8, 9, 10, 11, 12, 13, 14, 15, 16, 17, 18, 19] [false, true, false, false, false, false, false, false, false, false, false, false, false, false, false, false, false, false, false, false, true, true, true, true, true, true, true, true, true, true, true, true, true, true, true, true, true, true, true, true, true, true, true, true, true, true, true, true, true, true, true, true, true, true, true] rfl (by decide +kernel) rfl 0 4 rfl rfl rfl ⟨Nat.le_of_ble_eq_true rfl, Nat.le_of_ble_eq_true rfl⟩ hl.1 (Nat.le_of_ble_eq_true rfl) dL_law_1759 ⟨by show nC + 0 ≤ 600000; omega, by show nS + 0 ≤ 7302250; omega⟩ (fun r_1 u_3 H locs h_2 => ?_)
  clear hP hD hS
  intro hP hD hS
  obtain ⟨iX_4, iX_5, iX_6, tM_7, rfl, h_8, h_2⟩ := h_2
  replace hP : va_P G CL ((XW cy aX iX_4 iX_5 iX_6 fR tA tM_7 iL iBs tU tV fH fS fA gE kZ iT1 iT2 iT3 iT4 fB tD) ++ ((MK cy aM rR rB rO rK fMh fMo fMz gMv fMk fMa fMt kY fMr fM3 fMu fMy fMb eR tM iEn iTk uP uU kAt iTo iFr JFi iFa iSt iLv iWs wL uS0 uS1 uS2 uS3 uS4 iOm) ++ ((oM cy uU) ++ ((oL cy wL) ++ ((oM cy uP) ++ (oM cy uS0 ++ (oM cy uS1 ++ (oM cy uS2 ++ (oM cy uS3 ++ oM cy uS4))))))))) H := hP.part [36, 0, 37, 38, 39, 40, 41, 42, 43, 44, 45, 46, 47, 48, 49, 50, 51, 52, 53, 54, 1, 2, 3, 4, 5, 6, 7, 8, 9, 10, 11, 12, 13, 14, 15, 16, 17, 18, 19, 20, 21, 22, 23, 24, 25, 26, 27, 28, 29, 30, 31, 32, 33, 34, 35] rfl
  replace hD : va_D A ((XW cy aX iX_4 iX_5 iX_6 fR tA tM_7 iL iBs tU tV fH fS fA gE kZ iT1 iT2 iT3 iT4 fB tD) ++ ((MK cy aM rR rB rO rK fMh fMo fMz gMv fMk fMa fMt kY fMr fM3 fMu fMy fMb eR tM iEn iTk uP uU kAt iTo iFr JFi iFa iSt iLv iWs wL uS0 uS1 uS2 uS3 uS4 iOm) ++ ((oM cy uU) ++ ((oL cy wL) ++ ((oM cy uP) ++ (oM cy uS0 ++ (oM cy uS1 ++ (oM cy uS2 ++ (oM cy uS3 ++ oM cy uS4))))))))) := hD.part [36, 0, 37, 38, 39, 40, 41, 42, 43, 44, 45, 46, 47, 48, 49, 50, 51, 52, 53, 54, 1, 2, 3, 4, 5, 6, 7, 8, 9, 10, 11, 12, 13, 14, 15, 16, 17, 18, 19, 20, 21, 22, 23, 24, 25, 26, 27, 28, 29, 30, 31, 32, 33, 34, 35] (by decide +kernel) rfl
  refine lv_pop hx hb dL_law_1762 rfl ?_
  refine lv_aload_n hx hb dL_law_1763 rfl (lv_at hl 1 rfl) ?_
  replace hP : va_P G CL (((MK cy aM rR rB rO rK fMh fMo fMz gMv fMk fMa fMt kY fMr fM3 fMu fMy fMb eR tM iEn iTk uP uU kAt iTo iFr JFi iFa iSt iLv iWs wL uS0 uS1 uS2 uS3 uS4 iOm) ++ (oM cy uP)) ++ ((oM cy uU) ++ ((oL cy wL) ++ ((oM cy uS0 ++ (oM cy uS1 ++ (oM cy uS2 ++ (oM cy uS3 ++ oM cy uS4)))) ++ (XW cy aX iX_4 iX_5 iX_6 fR tA tM_7 iL iBs tU tV fH fS fA gE kZ iT1 iT2 iT3 iT4 fB tD))))) H := toPP hP
  replace hD : va_D A (((MK cy aM rR rB rO rK fMh fMo fMz gMv fMk fMa fMt kY fMr fM3 fMu fMy fMb eR tM iEn iTk uP uU kAt iTo iFr JFi iFa iSt iLv iWs wL uS0 uS1 uS2 uS3 uS4 iOm) ++ (oM cy uP)) ++ ((oM cy uU) ++ ((oL cy wL) ++ ((oM cy uS0 ++ (oM cy uS1 ++ (oM cy uS2 ++ (oM cy uS3 ++ oM cy uS4)))) ++ (XW cy aX iX_4 iX_5 iX_6 fR tA tM_7 iL iBs tU tV fH fS fA gE kZ iT1 iT2 iT3 iT4 fB tD))))) := toPD hD
  refine cViPQ (As := []) (rest := []) (b := (aM 0)) (q := (RX6, TX6, 35)) ⟨hx, hb, hml, hown, hts⟩ (p_X6_image l G cy (H).size (aM 0) (aM 1) (aM 2) (aM 3) (aM 14) (aM 4) (aM 5) (aM 6) (aM 7) kY (aM 8) tM (aM 15) (aM 16) (aM 17) iEn iTk uP uU kAt iTo iFr JFi iFa (aM 9) iSt iLv iWs (ovL wL) (aM 10) (aM 11) (aM 12) (aM 13) iOm rB rO rK hsM.1.1.1 hsM.1.1.2 hsM.1) L_L_211 hN hP hD hS hA [0, 23, 24, 25, 26, 27, 28, 29, 30, 31, 32, 33, 34, 35, 36, 37, 38, 39, 40, 41, 42, 43, 44, 45, 46, 47, 48, 49] [false, true, true, true, true, true, true, true, true, true, true, true, true, true, true, true, true, true, true, true, true, true, true, false, false, false, false, false, false, false, false, false, false, false, false, false, false, false, false, false, false, false, false, false, false, false, false, false, false, false] rfl (by decide +kernel) rfl 0 5 rfl rfl rfl ⟨Nat.le_of_ble_eq_true rfl, Nat.le_of_ble_eq_true rfl⟩ hl.1 (Nat.le_of_ble_eq_true rfl) dL_law_1764 ⟨by show nC + 0 + 50 ≤ 600000; omega, by show nS + 0 + 888 ≤ 7302250; omega⟩ (fun r_9 u_11 H locs h_10 => ?_)
  clear hP hD hS
  intro hP hD hS
  obtain ⟨uQ_12, rfl, h_13, h_10⟩ := h_10
  replace hP := as1P hP
  replace hD := as1D hD
  replace hP : va_P G CL ((MK cy aM rR rB rO rK fMh fMo fMz gMv fMk fMa fMt kY fMr fM3 fMu fMy fMb eR tM iEn iTk uQ_12 uU kAt iTo iFr JFi iFa iSt iLv iWs wL uS0 uS1 uS2 uS3 uS4 iOm) ++ ((oM cy uQ_12) ++ ((oM cy uU) ++ ((oL cy wL) ++ ((oM cy uS0 ++ (oM cy uS1 ++ (oM cy uS2 ++ (oM cy uS3 ++ oM cy uS4)))) ++ (XW cy aX iX_4 iX_5 iX_6 fR tA tM_7 iL iBs tU tV fH fS fA gE kZ iT1 iT2 iT3 iT4 fB tD)))))) H := hP.part [22, 0, 1, 2, 3, 4, 5, 6, 7, 8, 9, 10, 11, 12, 13, 14, 15, 16, 17, 18, 19, 20, 21, 23, 24, 25, 26, 27, 28, 29, 30, 31, 32, 33, 34, 35, 36, 37, 38, 39, 40, 41, 42, 43, 44, 45, 46, 47, 48, 49] rfl
  replace hD : va_D A ((MK cy aM rR rB rO rK fMh fMo fMz gMv fMk fMa fMt kY fMr fM3 fMu fMy fMb eR tM iEn iTk uQ_12 uU kAt iTo iFr JFi iFa iSt iLv iWs wL uS0 uS1 uS2 uS3 uS4 iOm) ++ ((oM cy uQ_12) ++ ((oM cy uU) ++ ((oL cy wL) ++ ((oM cy uS0 ++ (oM cy uS1 ++ (oM cy uS2 ++ (oM cy uS3 ++ oM cy uS4)))) ++ (XW cy aX iX_4 iX_5 iX_6 fR tA tM_7 iL iBs tU tV fH fS fA gE kZ iT1 iT2 iT3 iT4 fB tD)))))) := hD.part [22, 0, 1, 2, 3, 4, 5, 6, 7, 8, 9, 10, 11, 12, 13, 14, 15, 16, 17, 18, 19, 20, 21, 23, 24, 25, 26, 27, 28, 29, 30, 31, 32, 33, 34, 35, 36, 37, 38, 39, 40, 41, 42, 43, 44, 45, 46, 47, 48, 49] (by decide +kernel) rfl
  replace hP : va_P G CL ((XW cy aX iX_4 iX_5 iX_6 fR tA tM_7 iL iBs tU tV fH fS fA gE kZ iT1 iT2 iT3 iT4 fB tD) ++ ((MK cy aM rR rB rO rK fMh fMo fMz gMv fMk fMa fMt kY fMr fM3 fMu fMy fMb eR tM iEn iTk uQ_12 uU kAt iTo iFr JFi iFa iSt iLv iWs wL uS0 uS1 uS2 uS3 uS4 iOm) ++ ((oM cy uU) ++ ((oL cy wL) ++ ((oM cy uQ_12) ++ (oM cy uS0 ++ (oM cy uS1 ++ (oM cy uS2 ++ (oM cy uS3 ++ oM cy uS4))))))))) H := ofPP hP
  replace hD : va_D A ((XW cy aX iX_4 iX_5 iX_6 fR tA tM_7 iL iBs tU tV fH fS fA gE kZ iT1 iT2 iT3 iT4 fB tD) ++ ((MK cy aM rR rB rO rK fMh fMo fMz gMv fMk fMa fMt kY fMr fM3 fMu fMy fMb eR tM iEn iTk uQ_12 uU kAt iTo iFr JFi iFa iSt iLv iWs wL uS0 uS1 uS2 uS3 uS4 iOm) ++ ((oM cy uU) ++ ((oL cy wL) ++ ((oM cy uQ_12) ++ (oM cy uS0 ++ (oM cy uS1 ++ (oM cy uS2 ++ (oM cy uS3 ++ oM cy uS4))))))))) := ofPD hD
  refine lv_pop hx hb dL_law_1767 rfl ?_
  refine lv_goto (tgt := 1807) hx hb dL_law_1768 (by decide) ?_
  refine W.widen (k := nC + 250) (n := nS + 4440) (by omega) (by omega) ?_
  exact kk _ _ ⟨iX_4, iX_5, iX_6, fR, tA, tM_7, iL, iBs, tU, tV, fH, fS, fA, gE, kZ, iT1, iT2, iT3, iT4, fB, tD, fMh, fMo, fMz, gMv, fMk, fMa, fMt, kY, fMr, fM3, fMu, fMy, fMb, eR, tM, iEn, iTk, uQ_12, uU, kAt, iTo, iFr, JFi, iFa, iSt, iLv, iWs, wL, uS0, uS1, uS2, uS3, uS4, iOm, hP, hD, sx_image hsX h_8.1, sm_image hsM h_13, trivial⟩ hS
set_option maxHeartbeats 4000000 in
set_option maxRecDepth 100000 in
theorem law_47 {p : Program} {l : Launch} {e : Env} {s : State} {m : MethodId} {below : List Frame} {meth : Method} {c : Code} {b L : Nat} {xs : Nat → Int32} {A : Nat → Prop} {G : va_G} {cy : Nat → ClassId} {aX aM rR rB rO rK : Nat → Nat} (hx : p.tables.exec = Jvm.exec) (hb : c.code = code) (hr : meth.sig.returnType = ret) (hml : c.maxLocals = 4) (hown : s.vm.findClass RL = some m.cls) (hts : ∀ w ∈ BIG, w.before #[Value.ref b] s = true) (hX : va_X b L xs s s.heap) (hbl : b < s.heap.size) (hlocks : meth.locks = false) (hN : KN G cy s) (hA : ∀ q : Nat, s.heap.size ≤ q → A q) (hAn : ∀ q : Nat, A q → s.heap.size ≤ q) (hbA : ¬ A b) (hSO : SO A s s.heap) {H : Heap} {locs : List Loc} {ls : Array Slot} {kI nC nS : Nat} (hkI : kI + 6 ≤ L) (hL : L ≤ 384) (hnC : nC + 250 ≤ 600000) (hnS : nS + 4440 ≤ 7302250) (hI : LINV G cy A H aX aM rR rB rO rK) (hS : va_S A s.heap H locs) (hl : lv_has ls 4 [(3, .int (nI kI)), (2, .ref (aM 0)), (1, .ref (aX 0)), (0, .ref b)]) (kk : ∀ (H : Heap) (locs : List Loc), LINV G cy A H aX aM rR rB rO rK → va_S A s.heap H locs → W p l e room_1 s m #[Value.ref b] below meth c H locs (nC + 250) (nS + 4440) (lw_Z below #[Value.ref b] s) (F0 m 1807 ls [])) : W p l e room_1 s m #[Value.ref b] below meth c H locs nC nS (lw_Z below #[Value.ref b] s) (F0 m 1771 ls []) := by
  obtain ⟨iKp, iYe, iTv, fR, tA, tB, iL, iBs, tU, tV, fH, fS, fA, gE, kZ, iT1, iT2, iT3, iT4, fB, tD, fMh, fMo, fMz, gMv, fMk, fMa, fMt, kY, fMr, fM3, fMu, fMy, fMb, eR, tM, iEn, iTk, uP, uU, kAt, iTo, iFr, JFi, iFa, iSt, iLv, iWs, wL, uS0, uS1, uS2, uS3, uS4, iOm, hP, hD, hsX, hsM, hLR⟩ := hI
  refine lv_aload_n hx hb dL_law_1771 rfl (lv_at hl 2 rfl) ?_
  refine cViQ (As := []) (rest := []) (b := (aX 0)) (q := (RX5, TX5, 9)) ⟨hx, hb, hml, hown, hts⟩ (p_X5_back l G cy (H).size (aX 0) (aX 2) (aX 11) (aX 20) (aX 39) (aX 44) (aX 1) iKp iYe iTv fR tA (aX 3) (aX 4) (aX 5) (aX 6) (aX 7) (aX 8) (aX 9) (aX 10) tB (aX 12) (aX 13) (aX 14) (aX 15) (aX 16) (aX 17) (aX 18) (aX 19) hsX.1.1 hsX.1.2) L_L_212 hN hP hD hS hA [0, 1, 2, 3, 4, 5, 6, 7, 8, 9, 10, 11, 12, 13, 14, 15, 16, 17, 18, 19] [false, false, false, false, false, false, false, false, false, false, false, false, false, false, false, false, false, false, false, false, true, true, true, true, true, true, true, true, true, true, true, true, true, true, true, true, true, true, true, true, true, true, true, true, true, true, true, true, true, true, true, true, true, true, true] rfl (by decide +kernel) rfl 0 4 rfl rfl rfl ⟨Nat.le_of_ble_eq_true rfl, Nat.le_of_ble_eq_true rfl⟩ hl.1 (Nat.le_of_ble_eq_true rfl) dL_law_1772 ⟨by show nC + 0 ≤ 600000; omega, by show nS + 0 ≤ 7302250; omega⟩ (fun r_1 u_3 H locs h_2 => ?_)
  clear hP hD hS
  intro hP hD hS
  obtain ⟨fX_4, tN_5, rfl, h_6, h_2⟩ := h_2
  replace hP : va_P G CL ((XW cy aX iKp iYe iTv fX_4 tN_5 tB iL iBs tU tV fH fS fA gE kZ iT1 iT2 iT3 iT4 fB tD) ++ ((MK cy aM rR rB rO rK fMh fMo fMz gMv fMk fMa fMt kY fMr fM3 fMu fMy fMb eR tM iEn iTk uP uU kAt iTo iFr JFi iFa iSt iLv iWs wL uS0 uS1 uS2 uS3 uS4 iOm) ++ ((oM cy uU) ++ ((oL cy wL) ++ ((oM cy uP) ++ (oM cy uS0 ++ (oM cy uS1 ++ (oM cy uS2 ++ (oM cy uS3 ++ oM cy uS4))))))))) H := hP.part [35, 36, 37, 38, 39, 40, 41, 42, 43, 44, 45, 46, 47, 48, 49, 50, 51, 52, 53, 54, 0, 1, 2, 3, 4, 5, 6, 7, 8, 9, 10, 11, 12, 13, 14, 15, 16, 17, 18, 19, 20, 21, 22, 23, 24, 25, 26, 27, 28, 29, 30, 31, 32, 33, 34] rfl
  replace hD : va_D A ((XW cy aX iKp iYe iTv fX_4 tN_5 tB iL iBs tU tV fH fS fA gE kZ iT1 iT2 iT3 iT4 fB tD) ++ ((MK cy aM rR rB rO rK fMh fMo fMz gMv fMk fMa fMt kY fMr fM3 fMu fMy fMb eR tM iEn iTk uP uU kAt iTo iFr JFi iFa iSt iLv iWs wL uS0 uS1 uS2 uS3 uS4 iOm) ++ ((oM cy uU) ++ ((oL cy wL) ++ ((oM cy uP) ++ (oM cy uS0 ++ (oM cy uS1 ++ (oM cy uS2 ++ (oM cy uS3 ++ oM cy uS4))))))))) := hD.part [35, 36, 37, 38, 39, 40, 41, 42, 43, 44, 45, 46, 47, 48, 49, 50, 51, 52, 53, 54, 0, 1, 2, 3, 4, 5, 6, 7, 8, 9, 10, 11, 12, 13, 14, 15, 16, 17, 18, 19, 20, 21, 22, 23, 24, 25, 26, 27, 28, 29, 30, 31, 32, 33, 34] (by decide +kernel) rfl
  refine lv_pop hx hb dL_law_1775 rfl ?_
  refine lv_aload_n hx hb dL_law_1776 rfl (lv_at hl 1 rfl) ?_
  replace hP : va_P G CL (((MK cy aM rR rB rO rK fMh fMo fMz gMv fMk fMa fMt kY fMr fM3 fMu fMy fMb eR tM iEn iTk uP uU kAt iTo iFr JFi iFa iSt iLv iWs wL uS0 uS1 uS2 uS3 uS4 iOm) ++ (oM cy uP)) ++ ((oM cy uU) ++ ((oL cy wL) ++ ((oM cy uS0 ++ (oM cy uS1 ++ (oM cy uS2 ++ (oM cy uS3 ++ oM cy uS4)))) ++ (XW cy aX iKp iYe iTv fX_4 tN_5 tB iL iBs tU tV fH fS fA gE kZ iT1 iT2 iT3 iT4 fB tD))))) H := toPP hP
  replace hD : va_D A (((MK cy aM rR rB rO rK fMh fMo fMz gMv fMk fMa fMt kY fMr fM3 fMu fMy fMb eR tM iEn iTk uP uU kAt iTo iFr JFi iFa iSt iLv iWs wL uS0 uS1 uS2 uS3 uS4 iOm) ++ (oM cy uP)) ++ ((oM cy uU) ++ ((oL cy wL) ++ ((oM cy uS0 ++ (oM cy uS1 ++ (oM cy uS2 ++ (oM cy uS3 ++ oM cy uS4)))) ++ (XW cy aX iKp iYe iTv fX_4 tN_5 tB iL iBs tU tV fH fS fA gE kZ iT1 iT2 iT3 iT4 fB tD))))) := toPD hD
  refine cViPQ (As := []) (rest := []) (b := (aM 0)) (q := (RX6, TX6, 35)) ⟨hx, hb, hml, hown, hts⟩ (p_X6_back l G cy (H).size (aM 0) (aM 1) (aM 2) (aM 3) (aM 14) (aM 4) (aM 5) (aM 6) (aM 7) kY (aM 8) tM (aM 15) (aM 16) (aM 17) iEn iTk uP uU kAt iTo iFr JFi iFa (aM 9) iSt iLv iWs (ovL wL) (aM 10) (aM 11) (aM 12) (aM 13) iOm fMr rB rO rK hsM.1.1.1 hsM.1.1.2 hsM.1) L_L_215 hN hP hD hS hA [0, 8, 23, 24, 25, 26, 27, 28, 29, 30, 31, 32, 33, 34, 35, 36, 37, 38, 39, 40, 41, 42, 43, 44, 45, 46, 47, 48, 49] [false, true, true, true, true, true, true, true, false, true, true, true, true, true, true, true, true, true, true, true, true, true, true, false, false, false, false, false, false, false, false, false, false, false, false, false, false, false, false, false, false, false, false, false, false, false, false, false, false, false] rfl (by decide +kernel) rfl 0 5 rfl rfl rfl ⟨Nat.le_of_ble_eq_true rfl, Nat.le_of_ble_eq_true rfl⟩ hl.1 (Nat.le_of_ble_eq_true rfl) dL_law_1777 ⟨by show nC + 0 + 0 ≤ 600000; omega, by show nS + 0 + 0 ≤ 7302250; omega⟩ (fun r_7 u_9 H locs h_8 => ?_)
  clear hP hD hS
  intro hP hD hS
  obtain ⟨iNe_10, iNt_11, fNr_12, tN_13, rfl, h_14, h_8⟩ := h_8
  replace hP := as1P hP
  replace hD := as1D hD
  replace hP : va_P G CL ((MK cy aM rR rB rO rK fMh fMo fMz gMv fMk fMa fMt kY fNr_12 fM3 fMu fMy fMb eR tN_13 iNe_10 iNt_11 uP uU kAt iTo iFr JFi iFa iSt iLv iWs wL uS0 uS1 uS2 uS3 uS4 iOm) ++ ((oM cy uP) ++ ((oM cy uU) ++ ((oL cy wL) ++ ((oM cy uS0 ++ (oM cy uS1 ++ (oM cy uS2 ++ (oM cy uS3 ++ oM cy uS4)))) ++ (XW cy aX iKp iYe iTv fX_4 tN_5 tB iL iBs tU tV fH fS fA gE kZ iT1 iT2 iT3 iT4 fB tD)))))) H := hP.part [21, 0, 1, 2, 3, 4, 5, 6, 22, 7, 8, 9, 10, 11, 12, 13, 14, 15, 16, 17, 18, 19, 20, 23, 24, 25, 26, 27, 28, 29, 30, 31, 32, 33, 34, 35, 36, 37, 38, 39, 40, 41, 42, 43, 44, 45, 46, 47, 48, 49] rfl
  replace hD : va_D A ((MK cy aM rR rB rO rK fMh fMo fMz gMv fMk fMa fMt kY fNr_12 fM3 fMu fMy fMb eR tN_13 iNe_10 iNt_11 uP uU kAt iTo iFr JFi iFa iSt iLv iWs wL uS0 uS1 uS2 uS3 uS4 iOm) ++ ((oM cy uP) ++ ((oM cy uU) ++ ((oL cy wL) ++ ((oM cy uS0 ++ (oM cy uS1 ++ (oM cy uS2 ++ (oM cy uS3 ++ oM cy uS4)))) ++ (XW cy aX iKp iYe iTv fX_4 tN_5 tB iL iBs tU tV fH fS fA gE kZ iT1 iT2 iT3 iT4 fB tD)))))) := hD.part [21, 0, 1, 2, 3, 4, 5, 6, 22, 7, 8, 9, 10, 11, 12, 13, 14, 15, 16, 17, 18, 19, 20, 23, 24, 25, 26, 27, 28, 29, 30, 31, 32, 33, 34, 35, 36, 37, 38, 39, 40, 41, 42, 43, 44, 45, 46, 47, 48, 49] (by decide +kernel) rfl
  replace hP : va_P G CL ((XW cy aX iKp iYe iTv fX_4 tN_5 tB iL iBs tU tV fH fS fA gE kZ iT1 iT2 iT3 iT4 fB tD) ++ ((MK cy aM rR rB rO rK fMh fMo fMz gMv fMk fMa fMt kY fNr_12 fM3 fMu fMy fMb eR tN_13 iNe_10 iNt_11 uP uU kAt iTo iFr JFi iFa iSt iLv iWs wL uS0 uS1 uS2 uS3 uS4 iOm) ++ ((oM cy uU) ++ ((oL cy wL) ++ ((oM cy uP) ++ (oM cy uS0 ++ (oM cy uS1 ++ (oM cy uS2 ++ (oM cy uS3 ++ oM cy uS4))))))))) H := ofPP hP
  replace hD : va_D A ((XW cy aX iKp iYe iTv fX_4 tN_5 tB iL iBs tU tV fH fS fA gE kZ iT1 iT2 iT3 iT4 fB tD) ++ ((MK cy aM rR rB rO rK fMh fMo fMz gMv fMk fMa fMt kY fNr_12 fM3 fMu fMy fMb eR tN_13 iNe_10 iNt_11 uP uU kAt iTo iFr JFi iFa iSt iLv iWs wL uS0 uS1 uS2 uS3 uS4 iOm) ++ ((oM cy uU) ++ ((oL cy wL) ++ ((oM cy uP) ++ (oM cy uS0 ++ (oM cy uS1 ++ (oM cy uS2 ++ (oM cy uS3 ++ oM cy uS4))))))))) := ofPD hD
  refine lv_pop hx hb dL_law_1780 rfl ?_
  refine lv_goto (tgt := 1807) hx hb dL_law_1781 (by decide) ?_
  refine W.widen (k := nC + 250) (n := nS + 4440) (by omega) (by omega) ?_
  exact kk _ _ ⟨iKp, iYe, iTv, fX_4, tN_5, tB, iL, iBs, tU, tV, fH, fS, fA, gE, kZ, iT1, iT2, iT3, iT4, fB, tD, fMh, fMo, fMz, gMv, fMk, fMa, fMt, kY, fNr_12, fM3, fMu, fMy, fMb, eR, tN_13, iNe_10, iNt_11, uP, uU, kAt, iTo, iFr, JFi, iFa, iSt, iLv, iWs, wL, uS0, uS1, uS2, uS3, uS4, iOm, hP, hD, sx_back hsX h_6, sm_back hsM h_14, trivial⟩ hS
set_option maxHeartbeats 4000000 in
set_option maxRecDepth 100000 in
theorem law_48 {p : Program} {l : Launch} {e : Env} {s : State} {m : MethodId} {below : List Frame} {meth : Method} {c : Code} {b L : Nat} {xs : Nat → Int32} {A : Nat → Prop} {G : va_G} {cy : Nat → ClassId} {aX aM rR rB rO rK : Nat → Nat} (hx : p.tables.exec = Jvm.exec) (hb : c.code = code) (hr : meth.sig.returnType = ret) (hml : c.maxLocals = 4) (hown : s.vm.findClass RL = some m.cls) (hts : ∀ w ∈ BIG, w.before #[Value.ref b] s = true) (hX : va_X b L xs s s.heap) (hbl : b < s.heap.size) (hlocks : meth.locks = false) (hN : KN G cy s) (hA : ∀ q : Nat, s.heap.size ≤ q → A q) (hAn : ∀ q : Nat, A q → s.heap.size ≤ q) (hbA : ¬ A b) (hSO : SO A s s.heap) {H : Heap} {locs : List Loc} {ls : Array Slot} {kI nC nS : Nat} (hkI : kI + 6 ≤ L) (hL : L ≤ 384) (hnC : nC + 250 ≤ 600000) (hnS : nS + 4440 ≤ 7302250) (hI : LINV G cy A H aX aM rR rB rO rK) (hS : va_S A s.heap H locs) (hl : lv_has ls 4 [(3, .int (nI kI)), (2, .ref (aM 0)), (1, .ref (aX 0)), (0, .ref b)]) (kk : ∀ (H : Heap) (locs : List Loc), LINV G cy A H aX aM rR rB rO rK → va_S A s.heap H locs → W p l e room_1 s m #[Value.ref b] below meth c H locs (nC + 250) (nS + 4440) (lw_Z below #[Value.ref b] s) (F0 m 1807 ls [])) : W p l e room_1 s m #[Value.ref b] below meth c H locs nC nS (lw_Z below #[Value.ref b] s) (F0 m 1784 ls []) := by
  obtain ⟨iKp, iYe, iTv, fR, tA, tB, iL, iBs, tU, tV, fH, fS, fA, gE, kZ, iT1, iT2, iT3, iT4, fB, tD, fMh, fMo, fMz, gMv, fMk, fMa, fMt, kY, fMr, fM3, fMu, fMy, fMb, eR, tM, iEn, iTk, uP, uU, kAt, iTo, iFr, JFi, iFa, iSt, iLv, iWs, wL, uS0, uS1, uS2, uS3, uS4, iOm, hP, hD, hsX, hsM, hLR⟩ := hI
  refine lv_aload_n hx hb dL_law_1784 rfl (lv_at hl 2 rfl) ?_
  refine lv_aload_n hx hb dL_law_1785 rfl (lv_at hl 3 rfl) ?_
  refine lv_iload_n hx hb dL_law_1786 rfl (lv_at hl 0 rfl) ?_
  refine lv_iconst (v := 1) hx hb dL_law_1787 (by decide) ?_
  refine lv_iadd hx hb dL_law_1788 ?_
  refine lv_seti (v := nI (kI + 1)) (nI_add _ _) ?_
  refine va_sld hx hb hX hbl hbA hS (vp_in_nI (by omega) (by omega)) dL_law_1789 ?_
  refine lv_seti (v := xs (kI + 1)) (congrArg xs (nI_clamp (by omega))) ?_
  refine kRi (rV (As := [.int (xs (kI + 1))]) (rest := []) (b := (aX 0)) ⟨hx, hb, hml, hown, hts⟩ (p_X5_status l G cy (aX 0) (aX 2) (aX 11) (aX 20) (aX 39) (aX 44) (aX 1) iKp iYe iTv fR tA (aX 3) (aX 4) (aX 5) (aX 6) (aX 7) (aX 8) (aX 9) (aX 10) (aX 40) (aX 41) (aX 42) (aX 43) fH (aX 45) kZ iT1 iT2 iT3 iT4 (aX 46) (xs (kI + 1)) hsX.1.1 hsX.1.2 hsX.2.2.2.2) L_L_216 (preRV (q := (RX5, TX5, 9)) hN hP [0, 1, 2, 3, 4, 5, 6, 7, 8, 9, 10, 39, 40, 44] rfl 0 4 rfl rfl) rfl ⟨Nat.le_of_ble_eq_true rfl, Nat.le_of_ble_eq_true rfl⟩ hl.1 (Nat.le_of_ble_eq_true rfl) dL_law_1790 ⟨by show nC + 0 ≤ 600000; omega, by show nS + 0 ≤ 7302250; omega⟩) (fun r_1 h_2 => ?_)
  refine lv_pop hx hb dL_law_1793 rfl ?_
  refine lv_aload_n hx hb dL_law_1794 rfl (lv_at hl 1 rfl) ?_
  refine lv_aload_n hx hb dL_law_1795 rfl (lv_at hl 3 rfl) ?_
  refine lv_iload_n hx hb dL_law_1796 rfl (lv_at hl 0 rfl) ?_
  refine lv_iconst (v := 1) hx hb dL_law_1797 (by decide) ?_
  refine lv_iadd hx hb dL_law_1798 ?_
  refine lv_seti (v := nI (kI + 1)) (nI_add _ _) ?_
  refine va_sld hx hb hX hbl hbA hS (vp_in_nI (by omega) (by omega)) dL_law_1799 ?_
  refine lv_seti (v := xs (kI + 1)) (congrArg xs (nI_clamp (by omega))) ?_
  replace hP : va_P G CL ((MK cy aM rR rB rO rK fMh fMo fMz gMv fMk fMa fMt kY fMr fM3 fMu fMy fMb eR tM iEn iTk uP uU kAt iTo iFr JFi iFa iSt iLv iWs wL uS0 uS1 uS2 uS3 uS4 iOm) ++ (((oM cy uU) ++ ((oL cy wL) ++ ((oM cy uP) ++ (oM cy uS0 ++ (oM cy uS1 ++ (oM cy uS2 ++ (oM cy uS3 ++ oM cy uS4))))))) ++ (XW cy aX iKp iYe iTv fR tA tB iL iBs tU tV fH fS fA gE kZ iT1 iT2 iT3 iT4 fB tD))) H := toNP hP
  replace hD : va_D A ((MK cy aM rR rB rO rK fMh fMo fMz gMv fMk fMa fMt kY fMr fM3 fMu fMy fMb eR tM iEn iTk uP uU kAt iTo iFr JFi iFa iSt iLv iWs wL uS0 uS1 uS2 uS3 uS4 iOm) ++ (((oM cy uU) ++ ((oL cy wL) ++ ((oM cy uP) ++ (oM cy uS0 ++ (oM cy uS1 ++ (oM cy uS2 ++ (oM cy uS3 ++ oM cy uS4))))))) ++ (XW cy aX iKp iYe iTv fR tA tB iL iBs tU tV fH fS fA gE kZ iT1 iT2 iT3 iT4 fB tD))) := toND hD
  refine kRi (rV (As := [.int (xs (kI + 1))]) (rest := []) (b := (aM 0)) ⟨hx, hb, hml, hown, hts⟩ (p_X6_status l G cy (aM 0) (aM 1) (aM 2) (aM 3) (aM 14) (aM 4) (aM 5) (aM 6) (aM 7) kY (aM 8) tM (aM 15) (aM 16) (aM 17) iEn iTk uP uU kAt iTo iFr JFi iFa (aM 9) iSt iLv iWs (ovL wL) (aM 10) (aM 11) (aM 12) (aM 13) iOm fMh fMr rB rO rK (xs (kI + 1)) hsM.1.1.1 hsM.1.1.2 hsM.1) L_L_219 (preRV (q := (RX6, TX6, 35)) hN hP [0, 1, 8, 23, 24, 25, 26, 27, 28, 29, 30, 31, 32, 33, 34, 35, 36, 37, 38, 39, 40, 41, 42, 43, 44, 45, 46, 47, 48, 49] rfl 0 5 rfl rfl) rfl ⟨Nat.le_of_ble_eq_true rfl, Nat.le_of_ble_eq_true rfl⟩ hl.1 (Nat.le_of_ble_eq_true rfl) dL_law_1800 ⟨by show nC + 0 ≤ 600000; omega, by show nS + 0 ≤ 7302250; omega⟩) (fun r_3 h_4 => ?_)
  replace hP : va_P G CL ((XW cy aX iKp iYe iTv fR tA tB iL iBs tU tV fH fS fA gE kZ iT1 iT2 iT3 iT4 fB tD) ++ ((MK cy aM rR rB rO rK fMh fMo fMz gMv fMk fMa fMt kY fMr fM3 fMu fMy fMb eR tM iEn iTk uP uU kAt iTo iFr JFi iFa iSt iLv iWs wL uS0 uS1 uS2 uS3 uS4 iOm) ++ ((oM cy uU) ++ ((oL cy wL) ++ ((oM cy uP) ++ (oM cy uS0 ++ (oM cy uS1 ++ (oM cy uS2 ++ (oM cy uS3 ++ oM cy uS4))))))))) H := ofNP hP
  replace hD : va_D A ((XW cy aX iKp iYe iTv fR tA tB iL iBs tU tV fH fS fA gE kZ iT1 iT2 iT3 iT4 fB tD) ++ ((MK cy aM rR rB rO rK fMh fMo fMz gMv fMk fMa fMt kY fMr fM3 fMu fMy fMb eR tM iEn iTk uP uU kAt iTo iFr JFi iFa iSt iLv iWs wL uS0 uS1 uS2 uS3 uS4 iOm) ++ ((oM cy uU) ++ ((oL cy wL) ++ ((oM cy uP) ++ (oM cy uS0 ++ (oM cy uS1 ++ (oM cy uS2 ++ (oM cy uS3 ++ oM cy uS4))))))))) := ofND hD
  refine lv_pop hx hb dL_law_1803 rfl ?_
  refine lv_goto (tgt := 1807) hx hb dL_law_1804 (by decide) ?_
  refine W.widen (k := nC + 250) (n := nS + 4440) (by omega) (by omega) ?_
  exact kk _ _ ⟨iKp, iYe, iTv, fR, tA, tB, iL, iBs, tU, tV, fH, fS, fA, gE, kZ, iT1, iT2, iT3, iT4, fB, tD, fMh, fMo, fMz, gMv, fMk, fMa, fMt, kY, fMr, fM3, fMu, fMy, fMb, eR, tM, iEn, iTk, uP, uU, kAt, iTo, iFr, JFi, iFa, iSt, iLv, iWs, wL, uS0, uS1, uS2, uS3, uS4, iOm, hP, hD, hsX, hsM, trivial⟩ hS

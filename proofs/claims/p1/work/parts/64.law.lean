theorem dL_law_1545 : decode cL_law 1545 = .ok (.aload_n 1, 1) := by decide +kernel
theorem dL_law_1546 : decode cL_law 1546 = .ok (.invokevirtual 176, 3) := by decide +kernel
theorem dL_law_1549 : decode cL_law 1549 = .ok (.aload_n 2, 1) := by decide +kernel
theorem dL_law_1550 : decode cL_law 1550 = .ok (.invokevirtual 179, 3) := by decide +kernel
theorem dL_law_1553 : decode cL_law 1553 = .ok (.if_icmp .eq 255, 3) := by decide +kernel
theorem dL_law_1558 : decode cL_law 1558 = .ok (.aload_n 1, 1) := by decide +kernel
theorem dL_law_1559 : decode cL_law 1559 = .ok (.aload_n 0, 1) := by decide +kernel
theorem dL_law_1560 : decode cL_law 1560 = .ok (.iload_n 3, 1) := by decide +kernel
theorem dL_law_1561 : decode cL_law 1561 = .ok (.iconst 1, 1) := by decide +kernel
theorem dL_law_1562 : decode cL_law 1562 = .ok (.iadd, 1) := by decide +kernel
theorem dL_law_1563 : decode cL_law 1563 = .ok (.iaload, 1) := by decide +kernel
theorem dL_law_1564 : decode cL_law 1564 = .ok (.aload_n 0, 1) := by decide +kernel
theorem dL_law_1565 : decode cL_law 1565 = .ok (.iload_n 3, 1) := by decide +kernel
theorem dL_law_1566 : decode cL_law 1566 = .ok (.iconst 2, 1) := by decide +kernel
theorem dL_law_1567 : decode cL_law 1567 = .ok (.iadd, 1) := by decide +kernel
theorem dL_law_1568 : decode cL_law 1568 = .ok (.iaload, 1) := by decide +kernel
theorem dL_law_1569 : decode cL_law 1569 = .ok (.invokevirtual 180, 3) := by decide +kernel
theorem dL_law_1572 : decode cL_law 1572 = .ok (.aload_n 2, 1) := by decide +kernel
theorem dL_law_1573 : decode cL_law 1573 = .ok (.aload_n 0, 1) := by decide +kernel
theorem dL_law_1574 : decode cL_law 1574 = .ok (.iload_n 3, 1) := by decide +kernel
theorem dL_law_1575 : decode cL_law 1575 = .ok (.iconst 1, 1) := by decide +kernel
theorem dL_law_1576 : decode cL_law 1576 = .ok (.iadd, 1) := by decide +kernel
theorem dL_law_1577 : decode cL_law 1577 = .ok (.iaload, 1) := by decide +kernel
theorem dL_law_1578 : decode cL_law 1578 = .ok (.aload_n 0, 1) := by decide +kernel
theorem dL_law_1579 : decode cL_law 1579 = .ok (.iload_n 3, 1) := by decide +kernel
theorem dL_law_1580 : decode cL_law 1580 = .ok (.iconst 2, 1) := by decide +kernel
theorem dL_law_1581 : decode cL_law 1581 = .ok (.iadd, 1) := by decide +kernel
theorem dL_law_1582 : decode cL_law 1582 = .ok (.iaload, 1) := by decide +kernel
theorem dL_law_1583 : decode cL_law 1583 = .ok (.invokevirtual 183, 3) := by decide +kernel
theorem dL_law_1586 : decode cL_law 1586 = .ok (.if_icmp .eq 222, 3) := by decide +kernel
theorem dL_law_1591 : decode cL_law 1591 = .ok (.aload_n 1, 1) := by decide +kernel
theorem dL_law_1592 : decode cL_law 1592 = .ok (.aload_n 0, 1) := by decide +kernel
theorem dL_law_1593 : decode cL_law 1593 = .ok (.iload_n 3, 1) := by decide +kernel
theorem dL_law_1594 : decode cL_law 1594 = .ok (.iconst 1, 1) := by decide +kernel
theorem dL_law_1595 : decode cL_law 1595 = .ok (.iadd, 1) := by decide +kernel
theorem dL_law_1596 : decode cL_law 1596 = .ok (.iaload, 1) := by decide +kernel
theorem dL_law_1597 : decode cL_law 1597 = .ok (.aload_n 0, 1) := by decide +kernel
theorem dL_law_1598 : decode cL_law 1598 = .ok (.iload_n 3, 1) := by decide +kernel
theorem dL_law_1599 : decode cL_law 1599 = .ok (.iconst 2, 1) := by decide +kernel
theorem dL_law_1600 : decode cL_law 1600 = .ok (.iadd, 1) := by decide +kernel
theorem dL_law_1601 : decode cL_law 1601 = .ok (.iaload, 1) := by decide +kernel
theorem dL_law_1602 : decode cL_law 1602 = .ok (.invokevirtual 184, 3) := by decide +kernel
theorem dL_law_1605 : decode cL_law 1605 = .ok (.aload_n 2, 1) := by decide +kernel
theorem dL_law_1606 : decode cL_law 1606 = .ok (.aload_n 0, 1) := by decide +kernel
theorem dL_law_1607 : decode cL_law 1607 = .ok (.iload_n 3, 1) := by decide +kernel
theorem dL_law_1608 : decode cL_law 1608 = .ok (.iconst 1, 1) := by decide +kernel
theorem dL_law_1609 : decode cL_law 1609 = .ok (.iadd, 1) := by decide +kernel
theorem dL_law_1610 : decode cL_law 1610 = .ok (.iaload, 1) := by decide +kernel
theorem dL_law_1611 : decode cL_law 1611 = .ok (.aload_n 0, 1) := by decide +kernel
theorem dL_law_1612 : decode cL_law 1612 = .ok (.iload_n 3, 1) := by decide +kernel
theorem dL_law_1613 : decode cL_law 1613 = .ok (.iconst 2, 1) := by decide +kernel
theorem dL_law_1614 : decode cL_law 1614 = .ok (.iadd, 1) := by decide +kernel
theorem dL_law_1615 : decode cL_law 1615 = .ok (.iaload, 1) := by decide +kernel
theorem dL_law_1616 : decode cL_law 1616 = .ok (.invokevirtual 187, 3) := by decide +kernel
theorem dL_law_1619 : decode cL_law 1619 = .ok (.if_icmp .eq 189, 3) := by decide +kernel
theorem dL_law_1624 : decode cL_law 1624 = .ok (.aload_n 1, 1) := by decide +kernel
theorem dL_law_1625 : decode cL_law 1625 = .ok (.aload_n 0, 1) := by decide +kernel
theorem dL_law_1626 : decode cL_law 1626 = .ok (.iload_n 3, 1) := by decide +kernel
theorem dL_law_1627 : decode cL_law 1627 = .ok (.iconst 1, 1) := by decide +kernel
theorem dL_law_1628 : decode cL_law 1628 = .ok (.iadd, 1) := by decide +kernel
theorem dL_law_1629 : decode cL_law 1629 = .ok (.iaload, 1) := by decide +kernel
theorem dL_law_1630 : decode cL_law 1630 = .ok (.aload_n 0, 1) := by decide +kernel
theorem dL_law_1631 : decode cL_law 1631 = .ok (.iload_n 3, 1) := by decide +kernel
theorem dL_law_1632 : decode cL_law 1632 = .ok (.iconst 2, 1) := by decide +kernel
theorem dL_law_1633 : decode cL_law 1633 = .ok (.iadd, 1) := by decide +kernel
theorem dL_law_1634 : decode cL_law 1634 = .ok (.iaload, 1) := by decide +kernel
theorem dL_law_1635 : decode cL_law 1635 = .ok (.invokevirtual 188, 3) := by decide +kernel
theorem dL_law_1638 : decode cL_law 1638 = .ok (.aload_n 2, 1) := by decide +kernel
theorem dL_law_1639 : decode cL_law 1639 = .ok (.aload_n 0, 1) := by decide +kernel
theorem dL_law_1640 : decode cL_law 1640 = .ok (.iload_n 3, 1) := by decide +kernel
theorem dL_law_1641 : decode cL_law 1641 = .ok (.iconst 1, 1) := by decide +kernel
theorem dL_law_1642 : decode cL_law 1642 = .ok (.iadd, 1) := by decide +kernel
theorem dL_law_1643 : decode cL_law 1643 = .ok (.iaload, 1) := by decide +kernel
theorem dL_law_1644 : decode cL_law 1644 = .ok (.aload_n 0, 1) := by decide +kernel
theorem dL_law_1645 : decode cL_law 1645 = .ok (.iload_n 3, 1) := by decide +kernel
theorem dL_law_1646 : decode cL_law 1646 = .ok (.iconst 2, 1) := by decide +kernel
theorem dL_law_1647 : decode cL_law 1647 = .ok (.iadd, 1) := by decide +kernel
theorem dL_law_1648 : decode cL_law 1648 = .ok (.iaload, 1) := by decide +kernel
theorem dL_law_1649 : decode cL_law 1649 = .ok (.invokevirtual 191, 3) := by decide +kernel
theorem dL_law_1652 : decode cL_law 1652 = .ok (.if_icmp .eq 156, 3) := by decide +kernel
theorem dL_law_1657 : decode cL_law 1657 = .ok (.aload_n 1, 1) := by decide +kernel
theorem dL_law_1658 : decode cL_law 1658 = .ok (.aload_n 0, 1) := by decide +kernel
theorem dL_law_1659 : decode cL_law 1659 = .ok (.iload_n 3, 1) := by decide +kernel
theorem dL_law_1660 : decode cL_law 1660 = .ok (.iconst 1, 1) := by decide +kernel
theorem dL_law_1661 : decode cL_law 1661 = .ok (.iadd, 1) := by decide +kernel
theorem dL_law_1662 : decode cL_law 1662 = .ok (.iaload, 1) := by decide +kernel
theorem dL_law_1663 : decode cL_law 1663 = .ok (.aload_n 0, 1) := by decide +kernel
theorem dL_law_1664 : decode cL_law 1664 = .ok (.iload_n 3, 1) := by decide +kernel
theorem dL_law_1665 : decode cL_law 1665 = .ok (.iconst 2, 1) := by decide +kernel
theorem dL_law_1666 : decode cL_law 1666 = .ok (.iadd, 1) := by decide +kernel
theorem dL_law_1667 : decode cL_law 1667 = .ok (.iaload, 1) := by decide +kernel
theorem dL_law_1668 : decode cL_law 1668 = .ok (.invokevirtual 192, 3) := by decide +kernel
theorem dL_law_1671 : decode cL_law 1671 = .ok (.aload_n 2, 1) := by decide +kernel
theorem dL_law_1672 : decode cL_law 1672 = .ok (.aload_n 0, 1) := by decide +kernel
theorem dL_law_1673 : decode cL_law 1673 = .ok (.iload_n 3, 1) := by decide +kernel
theorem dL_law_1674 : decode cL_law 1674 = .ok (.iconst 1, 1) := by decide +kernel
theorem dL_law_1675 : decode cL_law 1675 = .ok (.iadd, 1) := by decide +kernel
theorem dL_law_1676 : decode cL_law 1676 = .ok (.iaload, 1) := by decide +kernel
theorem dL_law_1677 : decode cL_law 1677 = .ok (.aload_n 0, 1) := by decide +kernel
theorem dL_law_1678 : decode cL_law 1678 = .ok (.iload_n 3, 1) := by decide +kernel
theorem dL_law_1679 : decode cL_law 1679 = .ok (.iconst 2, 1) := by decide +kernel
theorem dL_law_1680 : decode cL_law 1680 = .ok (.iadd, 1) := by decide +kernel
theorem dL_law_1681 : decode cL_law 1681 = .ok (.iaload, 1) := by decide +kernel
theorem dL_law_1682 : decode cL_law 1682 = .ok (.invokevirtual 195, 3) := by decide +kernel
theorem dL_law_1685 : decode cL_law 1685 = .ok (.if_icmp .eq 123, 3) := by decide +kernel
theorem dL_law_1690 : decode cL_law 1690 = .ok (.aload_n 1, 1) := by decide +kernel
theorem dL_law_1691 : decode cL_law 1691 = .ok (.aload_n 0, 1) := by decide +kernel
theorem dL_law_1692 : decode cL_law 1692 = .ok (.iload_n 3, 1) := by decide +kernel
theorem dL_law_1693 : decode cL_law 1693 = .ok (.iconst 1, 1) := by decide +kernel
theorem dL_law_1694 : decode cL_law 1694 = .ok (.iadd, 1) := by decide +kernel
theorem dL_law_1695 : decode cL_law 1695 = .ok (.iaload, 1) := by decide +kernel
theorem dL_law_1696 : decode cL_law 1696 = .ok (.aload_n 0, 1) := by decide +kernel
theorem dL_law_1697 : decode cL_law 1697 = .ok (.iload_n 3, 1) := by decide +kernel
theorem dL_law_1698 : decode cL_law 1698 = .ok (.iconst 2, 1) := by decide +kernel
theorem dL_law_1699 : decode cL_law 1699 = .ok (.iadd, 1) := by decide +kernel
theorem dL_law_1700 : decode cL_law 1700 = .ok (.iaload, 1) := by decide +kernel
theorem dL_law_1701 : decode cL_law 1701 = .ok (.invokevirtual 196, 3) := by decide +kernel
theorem dL_law_1704 : decode cL_law 1704 = .ok (.aload_n 2, 1) := by decide +kernel
theorem dL_law_1705 : decode cL_law 1705 = .ok (.aload_n 0, 1) := by decide +kernel
theorem dL_law_1706 : decode cL_law 1706 = .ok (.iload_n 3, 1) := by decide +kernel
theorem dL_law_1707 : decode cL_law 1707 = .ok (.iconst 1, 1) := by decide +kernel
theorem dL_law_1708 : decode cL_law 1708 = .ok (.iadd, 1) := by decide +kernel
theorem dL_law_1709 : decode cL_law 1709 = .ok (.iaload, 1) := by decide +kernel
theorem dL_law_1710 : decode cL_law 1710 = .ok (.aload_n 0, 1) := by decide +kernel
theorem dL_law_1711 : decode cL_law 1711 = .ok (.iload_n 3, 1) := by decide +kernel
theorem dL_law_1712 : decode cL_law 1712 = .ok (.iconst 2, 1) := by decide +kernel
theorem dL_law_1713 : decode cL_law 1713 = .ok (.iadd, 1) := by decide +kernel
theorem dL_law_1714 : decode cL_law 1714 = .ok (.iaload, 1) := by decide +kernel
theorem dL_law_1715 : decode cL_law 1715 = .ok (.invokevirtual 199, 3) := by decide +kernel
theorem dL_law_1718 : decode cL_law 1718 = .ok (.if_icmp .eq 90, 3) := by decide +kernel
theorem dL_law_1723 : decode cL_law 1723 = .ok (.aload_n 1, 1) := by decide +kernel
theorem dL_law_1724 : decode cL_law 1724 = .ok (.invokevirtual 200, 3) := by decide +kernel
theorem dL_law_1727 : decode cL_law 1727 = .ok (.aload_n 2, 1) := by decide +kernel
theorem dL_law_1728 : decode cL_law 1728 = .ok (.invokevirtual 203, 3) := by decide +kernel
theorem dL_law_1731 : decode cL_law 1731 = .ok (.if_icmp .eq 77, 3) := by decide +kernel
theorem dL_law_1736 : decode cL_law 1736 = .ok (.aload_n 1, 1) := by decide +kernel
theorem dL_law_1737 : decode cL_law 1737 = .ok (.aload_n 0, 1) := by decide +kernel
theorem dL_law_1738 : decode cL_law 1738 = .ok (.iload_n 3, 1) := by decide +kernel
theorem dL_law_1739 : decode cL_law 1739 = .ok (.iconst 1, 1) := by decide +kernel
theorem dL_law_1740 : decode cL_law 1740 = .ok (.iadd, 1) := by decide +kernel
theorem dL_law_1741 : decode cL_law 1741 = .ok (.iaload, 1) := by decide +kernel
theorem dL_law_1742 : decode cL_law 1742 = .ok (.invokevirtual 204, 3) := by decide +kernel
theorem dL_law_1745 : decode cL_law 1745 = .ok (.aload_n 2, 1) := by decide +kernel
theorem dL_law_1746 : decode cL_law 1746 = .ok (.aload_n 0, 1) := by decide +kernel
theorem dL_law_1747 : decode cL_law 1747 = .ok (.iload_n 3, 1) := by decide +kernel
theorem dL_law_1748 : decode cL_law 1748 = .ok (.iconst 1, 1) := by decide +kernel
theorem dL_law_1749 : decode cL_law 1749 = .ok (.iadd, 1) := by decide +kernel
theorem dL_law_1750 : decode cL_law 1750 = .ok (.iaload, 1) := by decide +kernel
theorem dL_law_1751 : decode cL_law 1751 = .ok (.invokevirtual 207, 3) := by decide +kernel
theorem dL_law_1754 : decode cL_law 1754 = .ok (.if_icmp .eq 54, 3) := by decide +kernel
theorem dL_law_1759 : decode cL_law 1759 = .ok (.aload_n 1, 1) := by decide +kernel
theorem dL_law_1760 : decode cL_law 1760 = .ok (.invokevirtual 208, 3) := by decide +kernel
theorem dL_law_1763 : decode cL_law 1763 = .ok (.aload_n 2, 1) := by decide +kernel
theorem dL_law_1764 : decode cL_law 1764 = .ok (.invokevirtual 211, 3) := by decide +kernel
theorem dL_law_1767 : decode cL_law 1767 = .ok (.if_icmp .eq 41, 3) := by decide +kernel
theorem dL_law_1772 : decode cL_law 1772 = .ok (.aload_n 1, 1) := by decide +kernel
theorem dL_law_1773 : decode cL_law 1773 = .ok (.invokevirtual 212, 3) := by decide +kernel
theorem dL_law_1776 : decode cL_law 1776 = .ok (.aload_n 2, 1) := by decide +kernel
theorem dL_law_1777 : decode cL_law 1777 = .ok (.invokevirtual 215, 3) := by decide +kernel
theorem dL_law_1780 : decode cL_law 1780 = .ok (.if_icmp .eq 28, 3) := by decide +kernel
theorem dL_law_1785 : decode cL_law 1785 = .ok (.aload_n 1, 1) := by decide +kernel
theorem dL_law_1786 : decode cL_law 1786 = .ok (.aload_n 0, 1) := by decide +kernel
theorem dL_law_1787 : decode cL_law 1787 = .ok (.iload_n 3, 1) := by decide +kernel
theorem dL_law_1788 : decode cL_law 1788 = .ok (.iconst 1, 1) := by decide +kernel
theorem dL_law_1789 : decode cL_law 1789 = .ok (.iadd, 1) := by decide +kernel
theorem dL_law_1790 : decode cL_law 1790 = .ok (.iaload, 1) := by decide +kernel
theorem dL_law_1791 : decode cL_law 1791 = .ok (.invokevirtual 216, 3) := by decide +kernel
theorem dL_law_1794 : decode cL_law 1794 = .ok (.aload_n 2, 1) := by decide +kernel
theorem dL_law_1795 : decode cL_law 1795 = .ok (.aload_n 0, 1) := by decide +kernel
theorem dL_law_1796 : decode cL_law 1796 = .ok (.iload_n 3, 1) := by decide +kernel
theorem dL_law_1797 : decode cL_law 1797 = .ok (.iconst 1, 1) := by decide +kernel
theorem dL_law_1798 : decode cL_law 1798 = .ok (.iadd, 1) := by decide +kernel
theorem dL_law_1799 : decode cL_law 1799 = .ok (.iaload, 1) := by decide +kernel
theorem dL_law_1800 : decode cL_law 1800 = .ok (.invokevirtual 219, 3) := by decide +kernel
theorem dL_law_1803 : decode cL_law 1803 = .ok (.if_icmp .eq 5, 3) := by decide +kernel
set_option maxHeartbeats 4000000 in
set_option maxRecDepth 100000 in
theorem law_38 {p : Program} {l : Launch} {e : Env} {s : State} {m : MethodId} {below : List Frame} {meth : Method} {c : Code} {b : Nat} {xs : Nat → Int32} {A : Nat → Prop} {G : va_G} {cy : Nat → ClassId} {H : Heap} {locs : List Loc} {ls : Array Slot} (qx : Nat) (qt : Nat) (qk : Nat) (qp : Nat) (qs : Nat) (qa : Nat) (qr : Nat) (qtw : Nat) (qtn : Nat) (qtg : Nat) (qta : Nat) (qtr : Nat) (qtm : Nat) (qtt : Nat) (qts : Nat) (qm : Nat) (qms : Nat) (qmo : Nat) (qmz : Nat) (qmR : Nat) (qmv : Nat) (qmk : Nat) (qmb : Nat) (qmt : Nat) (qmr : Nat) (qmB : Nat) (qmO : Nat) (qmK : Nat) (qm_three : Nat) (qm_unread : Nat) (qm_tryRow : Nat) (qm_bestRow : Nat) (qm_steps : Nat) (hx : p.tables.exec = Jvm.exec) (hb : c.code = code) (hr : meth.sig.returnType = ret) (hml : c.maxLocals = 4) (hown : s.vm.findClass RL = some m.cls) (hts : ∀ w ∈ BIG, w.before #[Value.ref b] s = true) (hX : va_X b 6 xs s s.heap) (hbl : b < s.heap.size) (hlocks : meth.locks = false) (hN : KN G cy s) (hA : ∀ q : Nat, s.heap.size ≤ q → A q) (hAn : ∀ q : Nat, A q → s.heap.size ≤ q) (hbA : ¬ A b) (hP : va_P G CL [(qx, .inr (4, [.ref qt, .ref qk, .ref qp, .ref qs, .ref qa, .ref qr, .int 0, .int 0, .int 0])), (qt, .inr (3, [.int 0, .int 0, .int 0, .int 0, .int 1, .ref qtw, .ref qtn, .ref qtg, .ref qta, .ref qtr, .ref qtm, .ref qtt, .ref qts])), (qm, .inr (5, [.ref qms, .ref qmo, .ref qmz, .ref qmR, .ref qmv, .ref qmk, .ref qmb, .ref qmt, .int 0, .ref qmr, .int 0, .ref qmB, .int 0, .ref qmO, .ref qmK, .int 0, .int 0, .int 1, .null, .null, .int 0, .int 0, .int 0, .long 0, .int 0, .ref qm_three, .int 0, .int 0, .int 0, .null, .ref qm_unread, .ref qm_tryRow, .ref qm_bestRow, .ref qm_steps, .int 0]))] H) (hD : va_D A [(qx, .inr (4, [.ref qt, .ref qk, .ref qp, .ref qs, .ref qa, .ref qr, .int 0, .int 0, .int 0])), (qt, .inr (3, [.int 0, .int 0, .int 0, .int 0, .int 1, .ref qtw, .ref qtn, .ref qtg, .ref qta, .ref qtr, .ref qtm, .ref qtt, .ref qts])), (qm, .inr (5, [.ref qms, .ref qmo, .ref qmz, .ref qmR, .ref qmv, .ref qmk, .ref qmb, .ref qmt, .int 0, .ref qmr, .int 0, .ref qmB, .int 0, .ref qmO, .ref qmK, .int 0, .int 0, .int 1, .null, .null, .int 0, .int 0, .int 0, .long 0, .int 0, .ref qm_three, .int 0, .int 0, .int 0, .null, .ref qm_unread, .ref qm_tryRow, .ref qm_bestRow, .ref qm_steps, .int 0]))]) (hS : va_S A s.heap H locs) (hl : lv_has ls 4 [(3, .int 0), (2, .ref qm), (1, .ref qx), (0, .ref b)]) : W p l e room_1 s m #[Value.ref b] below meth c H locs 105 2176 (lw_Z below #[Value.ref b] s) (F0 m 1545 ls []) := by
  have hK := hN.1
  refine lv_aload_n hx hb dL_law_1545 rfl (lv_at hl 2 rfl) ?_
  refine kRi (rV (As := []) (rest := []) (b := qx) ⟨hx, hb, hml, hown, hts⟩ (p_X5_next l G cy qx qt qk qp qs qa qr qtw qtn qtg qta qtr qtm qtt qts) L_L_176 (preRV (q := (RX5, TX5, 9)) hN hP [0, 1] rfl 0 4 rfl rfl) rfl ⟨Nat.le_of_ble_eq_true rfl, Nat.le_of_ble_eq_true rfl⟩ hl.1 (Nat.le_of_ble_eq_true rfl) dL_law_1546 ⟨Nat.le_of_ble_eq_true rfl, Nat.le_of_ble_eq_true rfl⟩) (fun r_1 h_2 => ?_)
  subst h_2
  refine lv_aload_n hx hb dL_law_1549 rfl (lv_at hl 1 rfl) ?_
  refine kRi (rV (As := []) (rest := [.int (-1)]) (b := qm) ⟨hx, hb, hml, hown, hts⟩ (p_X6_next l G cy qm qms qmo qmz qmR qmv qmk qmb qmt qmr qmB qmO qmK qm_three qm_unread qm_tryRow qm_bestRow qm_steps) L_L_179 (preRV (q := (RX6, TX6, 35)) hN hP [2] rfl 2 5 rfl rfl) rfl ⟨Nat.le_of_ble_eq_true rfl, Nat.le_of_ble_eq_true rfl⟩ hl.1 (Nat.le_of_ble_eq_true rfl) dL_law_1550 ⟨Nat.le_of_ble_eq_true rfl, Nat.le_of_ble_eq_true rfl⟩) (fun r_3 h_4 => ?_)
  subst h_4
  refine lv_icmp_eq (tgt := 1808) hx hb dL_law_1553 (by decide) (fun _ => ?_) (fun h9 => absurd (by decide) h9)
  exact law_tail hx hb hr hml hX hbl hlocks hAn hbA hS (lv_sub hl [0, 3] rfl) (Nat.le_of_ble_eq_true rfl) (Nat.le_of_ble_eq_true rfl)
set_option maxHeartbeats 4000000 in
set_option maxRecDepth 100000 in
theorem law_39 {p : Program} {l : Launch} {e : Env} {s : State} {m : MethodId} {below : List Frame} {meth : Method} {c : Code} {b : Nat} {xs : Nat → Int32} {A : Nat → Prop} {G : va_G} {cy : Nat → ClassId} {H : Heap} {locs : List Loc} {ls : Array Slot} (qx : Nat) (qt : Nat) (qk : Nat) (qp : Nat) (qs : Nat) (qa : Nat) (qr : Nat) (qtw : Nat) (qtn : Nat) (qtg : Nat) (qta : Nat) (qtr : Nat) (qtm : Nat) (qtt : Nat) (qts : Nat) (qm : Nat) (qms : Nat) (qmo : Nat) (qmz : Nat) (qmR : Nat) (qmv : Nat) (qmk : Nat) (qmb : Nat) (qmt : Nat) (qmr : Nat) (qmB : Nat) (qmO : Nat) (qmK : Nat) (qm_three : Nat) (qm_unread : Nat) (qm_tryRow : Nat) (qm_bestRow : Nat) (qm_steps : Nat) (hx : p.tables.exec = Jvm.exec) (hb : c.code = code) (hr : meth.sig.returnType = ret) (hml : c.maxLocals = 4) (hown : s.vm.findClass RL = some m.cls) (hts : ∀ w ∈ BIG, w.before #[Value.ref b] s = true) (hX : va_X b 6 xs s s.heap) (hbl : b < s.heap.size) (hlocks : meth.locks = false) (hN : KN G cy s) (hA : ∀ q : Nat, s.heap.size ≤ q → A q) (hAn : ∀ q : Nat, A q → s.heap.size ≤ q) (hbA : ¬ A b) (hP : va_P G CL [(qx, .inr (4, [.ref qt, .ref qk, .ref qp, .ref qs, .ref qa, .ref qr, .int 0, .int 0, .int 0])), (qr, .inl (cy 0, 5, .inl (fun _ => 0))), (qt, .inr (3, [.int 0, .int 0, .int 0, .int 0, .int 1, .ref qtw, .ref qtn, .ref qtg, .ref qta, .ref qtr, .ref qtm, .ref qtt, .ref qts])), (qm, .inr (5, [.ref qms, .ref qmo, .ref qmz, .ref qmR, .ref qmv, .ref qmk, .ref qmb, .ref qmt, .int 0, .ref qmr, .int 0, .ref qmB, .int 0, .ref qmO, .ref qmK, .int 0, .int 0, .int 1, .null, .null, .int 0, .int 0, .int 0, .long 0, .int 0, .ref qm_three, .int 0, .int 0, .int 0, .null, .ref qm_unread, .ref qm_tryRow, .ref qm_bestRow, .ref qm_steps, .int 0])), (qmr, .inl (cy 0, 8, .inl (fun _ => 0)))] H) (hD : va_D A [(qx, .inr (4, [.ref qt, .ref qk, .ref qp, .ref qs, .ref qa, .ref qr, .int 0, .int 0, .int 0])), (qr, .inl (cy 0, 5, .inl (fun _ => 0))), (qt, .inr (3, [.int 0, .int 0, .int 0, .int 0, .int 1, .ref qtw, .ref qtn, .ref qtg, .ref qta, .ref qtr, .ref qtm, .ref qtt, .ref qts])), (qm, .inr (5, [.ref qms, .ref qmo, .ref qmz, .ref qmR, .ref qmv, .ref qmk, .ref qmb, .ref qmt, .int 0, .ref qmr, .int 0, .ref qmB, .int 0, .ref qmO, .ref qmK, .int 0, .int 0, .int 1, .null, .null, .int 0, .int 0, .int 0, .long 0, .int 0, .ref qm_three, .int 0, .int 0, .int 0, .null, .ref qm_unread, .ref qm_tryRow, .ref qm_bestRow, .ref qm_steps, .int 0])), (qmr, .inl (cy 0, 8, .inl (fun _ => 0)))]) (hS : va_S A s.heap H locs) (hl : lv_has ls 4 [(3, .int 0), (2, .ref qm), (1, .ref qx), (0, .ref b)]) : W p l e room_1 s m #[Value.ref b] below meth c H locs 105 2176 (lw_Z below #[Value.ref b] s) (F0 m 1558 ls []) := by
  have hK := hN.1
  refine lv_aload_n hx hb dL_law_1558 rfl (lv_at hl 2 rfl) ?_
  refine lv_aload_n hx hb dL_law_1559 rfl (lv_at hl 3 rfl) ?_
  refine lv_iload_n hx hb dL_law_1560 rfl (lv_at hl 0 rfl) ?_
  refine lv_iconst (v := 1) hx hb dL_law_1561 (by decide) ?_
  refine lv_iadd hx hb dL_law_1562 ?_
  refine lv_seti (v := 1) (by decide) ?_
  refine va_sld hx hb hX hbl hbA hS (in_c rfl) dL_law_1563 ?_
  refine lv_seti (v := xs 1) (congrArg xs (by decide)) ?_
  refine lv_aload_n hx hb dL_law_1564 rfl (lv_at hl 3 rfl) ?_
  refine lv_iload_n hx hb dL_law_1565 rfl (lv_at hl 0 rfl) ?_
  refine lv_iconst (v := 2) hx hb dL_law_1566 (by decide) ?_
  refine lv_iadd hx hb dL_law_1567 ?_
  refine lv_seti (v := 2) (by decide) ?_
  refine va_sld hx hb hX hbl hbA hS (in_c rfl) dL_law_1568 ?_
  refine lv_seti (v := xs 2) (congrArg xs (by decide)) ?_
  refine kWi (wr := [(qm, .inr (5, [.ref qms, .ref qmo, .ref qmz, .ref qmR, .ref qmv, .ref qmk, .ref qmb, .ref qmt, .int 0, .ref qmr, .int 0, .ref qmB, .int 0, .ref qmO, .ref qmK, .int 0, .int 0, .int 1, .null, .null, .int 0, .int 0, .int 0, .long 0, .int 0, .ref qm_three, .int 0, .int 0, .int 0, .null, .ref qm_unread, .ref qm_tryRow, .ref qm_bestRow, .ref qm_steps, .int 0])), (qmr, .inl (cy 0, 8, .inl (fun _ => 0)))]) (rV (As := [.int (xs 1), .int (xs 2)]) (rest := []) (b := qx) ⟨hx, hb, hml, hown, hts⟩ (p_X5_two l G cy (H).size qx qt qk qp qs qa qr qtw qtn qtg qta qtr qtm qtt qts (xs 1) (xs 2)) L_L_180 (preWV (q := (RX5, TX5, 9)) hN hP hD [0, 1, 2] rfl (by decide) 0 4 rfl rfl) rfl ⟨Nat.le_of_ble_eq_true rfl, Nat.le_of_ble_eq_true rfl⟩ hl.1 (Nat.le_of_ble_eq_true rfl) dL_law_1569 ⟨Nat.le_of_ble_eq_true rfl, Nat.le_of_ble_eq_true rfl⟩) hP hD hS hA [0, 1, 2] [3, 4] rfl rfl (by decide) (by decide) (fun r_1 u_3 H locs h_2 hP hD hS => ?_)
  obtain ⟨rfl, h_2⟩ := h_2
  have hP : va_P G CL [(qm, .inr (5, [.ref qms, .ref qmo, .ref qmz, .ref qmR, .ref qmv, .ref qmk, .ref qmb, .ref qmt, .int 0, .ref qmr, .int 0, .ref qmB, .int 0, .ref qmO, .ref qmK, .int 0, .int 0, .int 1, .null, .null, .int 0, .int 0, .int 0, .long 0, .int 0, .ref qm_three, .int 0, .int 0, .int 0, .null, .ref qm_unread, .ref qm_tryRow, .ref qm_bestRow, .ref qm_steps, .int 0])), (qmr, .inl (cy 0, 8, .inl (fun _ => 0)))] H := hP
  have hD : va_D A [(qm, .inr (5, [.ref qms, .ref qmo, .ref qmz, .ref qmR, .ref qmv, .ref qmk, .ref qmb, .ref qmt, .int 0, .ref qmr, .int 0, .ref qmB, .int 0, .ref qmO, .ref qmK, .int 0, .int 0, .int 1, .null, .null, .int 0, .int 0, .int 0, .long 0, .int 0, .ref qm_three, .int 0, .int 0, .int 0, .null, .ref qm_unread, .ref qm_tryRow, .ref qm_bestRow, .ref qm_steps, .int 0])), (qmr, .inl (cy 0, 8, .inl (fun _ => 0)))] := hD
  subst h_2
  refine lv_aload_n hx hb dL_law_1572 rfl (lv_at hl 1 rfl) ?_
  refine lv_aload_n hx hb dL_law_1573 rfl (lv_at hl 3 rfl) ?_
  refine lv_iload_n hx hb dL_law_1574 rfl (lv_at hl 0 rfl) ?_
  refine lv_iconst (v := 1) hx hb dL_law_1575 (by decide) ?_
  refine lv_iadd hx hb dL_law_1576 ?_
  refine lv_seti (v := 1) (by decide) ?_
  refine va_sld hx hb hX hbl hbA hS (in_c rfl) dL_law_1577 ?_
  refine lv_seti (v := xs 1) (congrArg xs (by decide)) ?_
  refine lv_aload_n hx hb dL_law_1578 rfl (lv_at hl 3 rfl) ?_
  refine lv_iload_n hx hb dL_law_1579 rfl (lv_at hl 0 rfl) ?_
  refine lv_iconst (v := 2) hx hb dL_law_1580 (by decide) ?_
  refine lv_iadd hx hb dL_law_1581 ?_
  refine lv_seti (v := 2) (by decide) ?_
  refine va_sld hx hb hX hbl hbA hS (in_c rfl) dL_law_1582 ?_
  refine lv_seti (v := xs 2) (congrArg xs (by decide)) ?_
  refine kWi (wr := []) (rV (As := [.int (xs 1), .int (xs 2)]) (rest := [.int (-2)]) (b := qm) ⟨hx, hb, hml, hown, hts⟩ (p_X6_two l G cy (H).size qm qms qmo qmz qmR qmv qmk qmb qmt qmr qmB qmO qmK qm_three qm_unread qm_tryRow qm_bestRow qm_steps (xs 1) (xs 2)) L_L_183 (preWV (q := (RX6, TX6, 35)) hN hP hD [0, 1] rfl (by decide) 0 5 rfl rfl) rfl ⟨Nat.le_of_ble_eq_true rfl, Nat.le_of_ble_eq_true rfl⟩ hl.1 (Nat.le_of_ble_eq_true rfl) dL_law_1583 ⟨Nat.le_of_ble_eq_true rfl, Nat.le_of_ble_eq_true rfl⟩) hP hD hS hA [0, 1] [] rfl rfl (by decide) (by decide) (fun r_4 u_6 H locs h_5 hP hD hS => ?_)
  obtain ⟨rfl, h_5⟩ := h_5
  have hP : va_P G CL [] H := hP
  have hD : va_D A [] := hD
  subst h_5
  refine lv_icmp_eq (tgt := 1808) hx hb dL_law_1586 (by decide) (fun _ => ?_) (fun h9 => absurd (by decide) h9)
  exact law_tail hx hb hr hml hX hbl hlocks hAn hbA hS (lv_sub hl [0, 3] rfl) (Nat.le_of_ble_eq_true rfl) (Nat.le_of_ble_eq_true rfl)
set_option maxHeartbeats 4000000 in
set_option maxRecDepth 100000 in
theorem law_40 {p : Program} {l : Launch} {e : Env} {s : State} {m : MethodId} {below : List Frame} {meth : Method} {c : Code} {b : Nat} {xs : Nat → Int32} {A : Nat → Prop} {G : va_G} {cy : Nat → ClassId} {H : Heap} {locs : List Loc} {ls : Array Slot} (qx : Nat) (qt : Nat) (qk : Nat) (qp : Nat) (qs : Nat) (qa : Nat) (qr : Nat) (qsh : Nat) (qss : Nat) (qsa : Nat) (qse : Nat) (fH : Nat → Int32) (qm : Nat) (qms : Nat) (qmo : Nat) (qmz : Nat) (qmR : Nat) (qmv : Nat) (qmk : Nat) (qmb : Nat) (qmt : Nat) (qmr : Nat) (qmB : Nat) (qmO : Nat) (qmK : Nat) (qm_three : Nat) (qm_unread : Nat) (qm_tryRow : Nat) (qm_bestRow : Nat) (qm_steps : Nat) (hx : p.tables.exec = Jvm.exec) (hb : c.code = code) (hr : meth.sig.returnType = ret) (hml : c.maxLocals = 4) (hown : s.vm.findClass RL = some m.cls) (hts : ∀ w ∈ BIG, w.before #[Value.ref b] s = true) (hX : va_X b 6 xs s s.heap) (hbl : b < s.heap.size) (hlocks : meth.locks = false) (hN : KN G cy s) (hA : ∀ q : Nat, s.heap.size ≤ q → A q) (hAn : ∀ q : Nat, A q → s.heap.size ≤ q) (hbA : ¬ A b) (hP : va_P G CL [(qx, .inr (4, [.ref qt, .ref qk, .ref qp, .ref qs, .ref qa, .ref qr, .int 0, .int 0, .int 0])), (qr, .inl (cy 0, 5, .inl (fun _ => 0))), (qs, .inr (1, [.ref qsh, .ref qss, .ref qsa, .ref qse])), (qsh, .inl (cy 0, 8, .inl fH)), (qm, .inr (5, [.ref qms, .ref qmo, .ref qmz, .ref qmR, .ref qmv, .ref qmk, .ref qmb, .ref qmt, .int 0, .ref qmr, .int 0, .ref qmB, .int 0, .ref qmO, .ref qmK, .int 0, .int 0, .int 1, .null, .null, .int 0, .int 0, .int 0, .long 0, .int 0, .ref qm_three, .int 0, .int 0, .int 0, .null, .ref qm_unread, .ref qm_tryRow, .ref qm_bestRow, .ref qm_steps, .int 0])), (qms, .inl (cy 0, 8, .inl (fun _ => 0))), (qmr, .inl (cy 0, 8, .inl (fun _ => 0)))] H) (hD : va_D A [(qx, .inr (4, [.ref qt, .ref qk, .ref qp, .ref qs, .ref qa, .ref qr, .int 0, .int 0, .int 0])), (qr, .inl (cy 0, 5, .inl (fun _ => 0))), (qs, .inr (1, [.ref qsh, .ref qss, .ref qsa, .ref qse])), (qsh, .inl (cy 0, 8, .inl fH)), (qm, .inr (5, [.ref qms, .ref qmo, .ref qmz, .ref qmR, .ref qmv, .ref qmk, .ref qmb, .ref qmt, .int 0, .ref qmr, .int 0, .ref qmB, .int 0, .ref qmO, .ref qmK, .int 0, .int 0, .int 1, .null, .null, .int 0, .int 0, .int 0, .long 0, .int 0, .ref qm_three, .int 0, .int 0, .int 0, .null, .ref qm_unread, .ref qm_tryRow, .ref qm_bestRow, .ref qm_steps, .int 0])), (qms, .inl (cy 0, 8, .inl (fun _ => 0))), (qmr, .inl (cy 0, 8, .inl (fun _ => 0)))]) (hS : va_S A s.heap H locs) (hl : lv_has ls 4 [(3, .int 0), (2, .ref qm), (1, .ref qx), (0, .ref b)]) (hH : ∀ i, i < 8 → fH i = -1) : W p l e room_1 s m #[Value.ref b] below meth c H locs 105 2176 (lw_Z below #[Value.ref b] s) (F0 m 1591 ls []) := by
  have hK := hN.1
  refine lv_aload_n hx hb dL_law_1591 rfl (lv_at hl 2 rfl) ?_
  refine lv_aload_n hx hb dL_law_1592 rfl (lv_at hl 3 rfl) ?_
  refine lv_iload_n hx hb dL_law_1593 rfl (lv_at hl 0 rfl) ?_
  refine lv_iconst (v := 1) hx hb dL_law_1594 (by decide) ?_
  refine lv_iadd hx hb dL_law_1595 ?_
  refine lv_seti (v := 1) (by decide) ?_
  refine va_sld hx hb hX hbl hbA hS (in_c rfl) dL_law_1596 ?_
  refine lv_seti (v := xs 1) (congrArg xs (by decide)) ?_
  refine lv_aload_n hx hb dL_law_1597 rfl (lv_at hl 3 rfl) ?_
  refine lv_iload_n hx hb dL_law_1598 rfl (lv_at hl 0 rfl) ?_
  refine lv_iconst (v := 2) hx hb dL_law_1599 (by decide) ?_
  refine lv_iadd hx hb dL_law_1600 ?_
  refine lv_seti (v := 2) (by decide) ?_
  refine va_sld hx hb hX hbl hbA hS (in_c rfl) dL_law_1601 ?_
  refine lv_seti (v := xs 2) (congrArg xs (by decide)) ?_
  refine kWi (wr := [(qm, .inr (5, [.ref qms, .ref qmo, .ref qmz, .ref qmR, .ref qmv, .ref qmk, .ref qmb, .ref qmt, .int 0, .ref qmr, .int 0, .ref qmB, .int 0, .ref qmO, .ref qmK, .int 0, .int 0, .int 1, .null, .null, .int 0, .int 0, .int 0, .long 0, .int 0, .ref qm_three, .int 0, .int 0, .int 0, .null, .ref qm_unread, .ref qm_tryRow, .ref qm_bestRow, .ref qm_steps, .int 0])), (qms, .inl (cy 0, 8, .inl (fun _ => 0))), (qmr, .inl (cy 0, 8, .inl (fun _ => 0)))]) (rV (As := [.int (xs 1), .int (xs 2)]) (rest := []) (b := qx) ⟨hx, hb, hml, hown, hts⟩ (p_X5_gains l G cy (H).size qx qt qk qp qs qa qr qsh qss qsa qse fH (xs 1) (xs 2) hH) L_L_184 (preWV (q := (RX5, TX5, 9)) hN hP hD [0, 1, 2, 3] rfl (by decide) 0 4 rfl rfl) rfl ⟨Nat.le_of_ble_eq_true rfl, Nat.le_of_ble_eq_true rfl⟩ hl.1 (Nat.le_of_ble_eq_true rfl) dL_law_1602 ⟨Nat.le_of_ble_eq_true rfl, Nat.le_of_ble_eq_true rfl⟩) hP hD hS hA [0, 1, 2, 3] [4, 5, 6] rfl rfl (by decide) (by decide) (fun r_1 u_3 H locs h_2 hP hD hS => ?_)
  obtain ⟨rfl, h_2⟩ := h_2
  have hP : va_P G CL [(qm, .inr (5, [.ref qms, .ref qmo, .ref qmz, .ref qmR, .ref qmv, .ref qmk, .ref qmb, .ref qmt, .int 0, .ref qmr, .int 0, .ref qmB, .int 0, .ref qmO, .ref qmK, .int 0, .int 0, .int 1, .null, .null, .int 0, .int 0, .int 0, .long 0, .int 0, .ref qm_three, .int 0, .int 0, .int 0, .null, .ref qm_unread, .ref qm_tryRow, .ref qm_bestRow, .ref qm_steps, .int 0])), (qms, .inl (cy 0, 8, .inl (fun _ => 0))), (qmr, .inl (cy 0, 8, .inl (fun _ => 0)))] H := hP
  have hD : va_D A [(qm, .inr (5, [.ref qms, .ref qmo, .ref qmz, .ref qmR, .ref qmv, .ref qmk, .ref qmb, .ref qmt, .int 0, .ref qmr, .int 0, .ref qmB, .int 0, .ref qmO, .ref qmK, .int 0, .int 0, .int 1, .null, .null, .int 0, .int 0, .int 0, .long 0, .int 0, .ref qm_three, .int 0, .int 0, .int 0, .null, .ref qm_unread, .ref qm_tryRow, .ref qm_bestRow, .ref qm_steps, .int 0])), (qms, .inl (cy 0, 8, .inl (fun _ => 0))), (qmr, .inl (cy 0, 8, .inl (fun _ => 0)))] := hD
  subst h_2
  refine lv_aload_n hx hb dL_law_1605 rfl (lv_at hl 1 rfl) ?_
  refine lv_aload_n hx hb dL_law_1606 rfl (lv_at hl 3 rfl) ?_
  refine lv_iload_n hx hb dL_law_1607 rfl (lv_at hl 0 rfl) ?_
  refine lv_iconst (v := 1) hx hb dL_law_1608 (by decide) ?_
  refine lv_iadd hx hb dL_law_1609 ?_
  refine lv_seti (v := 1) (by decide) ?_
  refine va_sld hx hb hX hbl hbA hS (in_c rfl) dL_law_1610 ?_
  refine lv_seti (v := xs 1) (congrArg xs (by decide)) ?_
  refine lv_aload_n hx hb dL_law_1611 rfl (lv_at hl 3 rfl) ?_
  refine lv_iload_n hx hb dL_law_1612 rfl (lv_at hl 0 rfl) ?_
  refine lv_iconst (v := 2) hx hb dL_law_1613 (by decide) ?_
  refine lv_iadd hx hb dL_law_1614 ?_
  refine lv_seti (v := 2) (by decide) ?_
  refine va_sld hx hb hX hbl hbA hS (in_c rfl) dL_law_1615 ?_
  refine lv_seti (v := xs 2) (congrArg xs (by decide)) ?_
  refine kWi (wr := []) (rV (As := [.int (xs 1), .int (xs 2)]) (rest := [.int (sp_gains (xs 1) (xs 2))]) (b := qm) ⟨hx, hb, hml, hown, hts⟩ (p_X6_gains l G cy (H).size qm qms qmo qmz qmR qmv qmk qmb qmt qmr qmB qmO qmK qm_three qm_unread qm_tryRow qm_bestRow qm_steps (xs 1) (xs 2)) L_L_187 (preWV (q := (RX6, TX6, 35)) hN hP hD [0, 1, 2] rfl (by decide) 0 5 rfl rfl) rfl ⟨Nat.le_of_ble_eq_true rfl, Nat.le_of_ble_eq_true rfl⟩ hl.1 (Nat.le_of_ble_eq_true rfl) dL_law_1616 ⟨Nat.le_of_ble_eq_true rfl, Nat.le_of_ble_eq_true rfl⟩) hP hD hS hA [0, 1, 2] [] rfl rfl (by decide) (by decide) (fun r_4 u_6 H locs h_5 hP hD hS => ?_)
  obtain ⟨rfl, h_5⟩ := h_5
  have hP : va_P G CL [] H := hP
  have hD : va_D A [] := hD
  subst h_5
  refine lv_icmp_eq (tgt := 1808) hx hb dL_law_1619 (by decide) (fun _ => ?_) (fun h9 => absurd rfl h9)
  exact law_tail hx hb hr hml hX hbl hlocks hAn hbA hS (lv_sub hl [0, 3] rfl) (Nat.le_of_ble_eq_true rfl) (Nat.le_of_ble_eq_true rfl)
set_option maxHeartbeats 4000000 in
set_option maxRecDepth 100000 in
theorem law_41 {p : Program} {l : Launch} {e : Env} {s : State} {m : MethodId} {below : List Frame} {meth : Method} {c : Code} {b : Nat} {xs : Nat → Int32} {A : Nat → Prop} {G : va_G} {cy : Nat → ClassId} {H : Heap} {locs : List Loc} {ls : Array Slot} (qx : Nat) (qt : Nat) (qk : Nat) (qp : Nat) (qs : Nat) (qa : Nat) (qr : Nat) (qsh : Nat) (qss : Nat) (qsa : Nat) (qse : Nat) (fH : Nat → Int32) (qm : Nat) (qms : Nat) (qmo : Nat) (qmz : Nat) (qmR : Nat) (qmv : Nat) (qmk : Nat) (qmb : Nat) (qmt : Nat) (qmr : Nat) (qmB : Nat) (qmO : Nat) (qmK : Nat) (qm_three : Nat) (qm_unread : Nat) (qm_tryRow : Nat) (qm_bestRow : Nat) (qm_steps : Nat) (hx : p.tables.exec = Jvm.exec) (hb : c.code = code) (hr : meth.sig.returnType = ret) (hml : c.maxLocals = 4) (hown : s.vm.findClass RL = some m.cls) (hts : ∀ w ∈ BIG, w.before #[Value.ref b] s = true) (hX : va_X b 6 xs s s.heap) (hbl : b < s.heap.size) (hlocks : meth.locks = false) (hN : KN G cy s) (hA : ∀ q : Nat, s.heap.size ≤ q → A q) (hAn : ∀ q : Nat, A q → s.heap.size ≤ q) (hbA : ¬ A b) (hP : va_P G CL [(qx, .inr (4, [.ref qt, .ref qk, .ref qp, .ref qs, .ref qa, .ref qr, .int 0, .int 0, .int 0])), (qr, .inl (cy 0, 5, .inl (fun _ => 0))), (qs, .inr (1, [.ref qsh, .ref qss, .ref qsa, .ref qse])), (qsh, .inl (cy 0, 8, .inl fH)), (qm, .inr (5, [.ref qms, .ref qmo, .ref qmz, .ref qmR, .ref qmv, .ref qmk, .ref qmb, .ref qmt, .int 0, .ref qmr, .int 0, .ref qmB, .int 0, .ref qmO, .ref qmK, .int 0, .int 0, .int 1, .null, .null, .int 0, .int 0, .int 0, .long 0, .int 0, .ref qm_three, .int 0, .int 0, .int 0, .null, .ref qm_unread, .ref qm_tryRow, .ref qm_bestRow, .ref qm_steps, .int 0])), (qms, .inl (cy 0, 8, .inl (fun _ => 0))), (qmr, .inl (cy 0, 8, .inl (fun _ => 0)))] H) (hD : va_D A [(qx, .inr (4, [.ref qt, .ref qk, .ref qp, .ref qs, .ref qa, .ref qr, .int 0, .int 0, .int 0])), (qr, .inl (cy 0, 5, .inl (fun _ => 0))), (qs, .inr (1, [.ref qsh, .ref qss, .ref qsa, .ref qse])), (qsh, .inl (cy 0, 8, .inl fH)), (qm, .inr (5, [.ref qms, .ref qmo, .ref qmz, .ref qmR, .ref qmv, .ref qmk, .ref qmb, .ref qmt, .int 0, .ref qmr, .int 0, .ref qmB, .int 0, .ref qmO, .ref qmK, .int 0, .int 0, .int 1, .null, .null, .int 0, .int 0, .int 0, .long 0, .int 0, .ref qm_three, .int 0, .int 0, .int 0, .null, .ref qm_unread, .ref qm_tryRow, .ref qm_bestRow, .ref qm_steps, .int 0])), (qms, .inl (cy 0, 8, .inl (fun _ => 0))), (qmr, .inl (cy 0, 8, .inl (fun _ => 0)))]) (hS : va_S A s.heap H locs) (hl : lv_has ls 4 [(3, .int 0), (2, .ref qm), (1, .ref qx), (0, .ref b)]) (hH : ∀ i, i < 8 → fH i = -1) : W p l e room_1 s m #[Value.ref b] below meth c H locs 105 2176 (lw_Z below #[Value.ref b] s) (F0 m 1624 ls []) := by
  have hK := hN.1
  refine lv_aload_n hx hb dL_law_1624 rfl (lv_at hl 2 rfl) ?_
  refine lv_aload_n hx hb dL_law_1625 rfl (lv_at hl 3 rfl) ?_
  refine lv_iload_n hx hb dL_law_1626 rfl (lv_at hl 0 rfl) ?_
  refine lv_iconst (v := 1) hx hb dL_law_1627 (by decide) ?_
  refine lv_iadd hx hb dL_law_1628 ?_
  refine lv_seti (v := 1) (by decide) ?_
  refine va_sld hx hb hX hbl hbA hS (in_c rfl) dL_law_1629 ?_
  refine lv_seti (v := xs 1) (congrArg xs (by decide)) ?_
  refine lv_aload_n hx hb dL_law_1630 rfl (lv_at hl 3 rfl) ?_
  refine lv_iload_n hx hb dL_law_1631 rfl (lv_at hl 0 rfl) ?_
  refine lv_iconst (v := 2) hx hb dL_law_1632 (by decide) ?_
  refine lv_iadd hx hb dL_law_1633 ?_
  refine lv_seti (v := 2) (by decide) ?_
  refine va_sld hx hb hX hbl hbA hS (in_c rfl) dL_law_1634 ?_
  refine lv_seti (v := xs 2) (congrArg xs (by decide)) ?_
  refine kWi (wr := [(qm, .inr (5, [.ref qms, .ref qmo, .ref qmz, .ref qmR, .ref qmv, .ref qmk, .ref qmb, .ref qmt, .int 0, .ref qmr, .int 0, .ref qmB, .int 0, .ref qmO, .ref qmK, .int 0, .int 0, .int 1, .null, .null, .int 0, .int 0, .int 0, .long 0, .int 0, .ref qm_three, .int 0, .int 0, .int 0, .null, .ref qm_unread, .ref qm_tryRow, .ref qm_bestRow, .ref qm_steps, .int 0])), (qms, .inl (cy 0, 8, .inl (fun _ => 0))), (qmr, .inl (cy 0, 8, .inl (fun _ => 0)))]) (rV (As := [.int (xs 1), .int (xs 2)]) (rest := []) (b := qx) ⟨hx, hb, hml, hown, hts⟩ (p_X5_judge l G cy (H).size qx qt qk qp qs qa qr qsh qss qsa qse fH (xs 1) (xs 2) hH) L_L_188 (preWV (q := (RX5, TX5, 9)) hN hP hD [0, 1, 2, 3] rfl (by decide) 0 4 rfl rfl) rfl ⟨Nat.le_of_ble_eq_true rfl, Nat.le_of_ble_eq_true rfl⟩ hl.1 (Nat.le_of_ble_eq_true rfl) dL_law_1635 ⟨Nat.le_of_ble_eq_true rfl, Nat.le_of_ble_eq_true rfl⟩) hP hD hS hA [0, 1, 2, 3] [4, 5, 6] rfl rfl (by decide) (by decide) (fun r_1 u_3 H locs h_2 hP hD hS => ?_)
  obtain ⟨rfl, h_2⟩ := h_2
  have hP : va_P G CL [(qm, .inr (5, [.ref qms, .ref qmo, .ref qmz, .ref qmR, .ref qmv, .ref qmk, .ref qmb, .ref qmt, .int 0, .ref qmr, .int 0, .ref qmB, .int 0, .ref qmO, .ref qmK, .int 0, .int 0, .int 1, .null, .null, .int 0, .int 0, .int 0, .long 0, .int 0, .ref qm_three, .int 0, .int 0, .int 0, .null, .ref qm_unread, .ref qm_tryRow, .ref qm_bestRow, .ref qm_steps, .int 0])), (qms, .inl (cy 0, 8, .inl (fun _ => 0))), (qmr, .inl (cy 0, 8, .inl (fun _ => 0)))] H := hP
  have hD : va_D A [(qm, .inr (5, [.ref qms, .ref qmo, .ref qmz, .ref qmR, .ref qmv, .ref qmk, .ref qmb, .ref qmt, .int 0, .ref qmr, .int 0, .ref qmB, .int 0, .ref qmO, .ref qmK, .int 0, .int 0, .int 1, .null, .null, .int 0, .int 0, .int 0, .long 0, .int 0, .ref qm_three, .int 0, .int 0, .int 0, .null, .ref qm_unread, .ref qm_tryRow, .ref qm_bestRow, .ref qm_steps, .int 0])), (qms, .inl (cy 0, 8, .inl (fun _ => 0))), (qmr, .inl (cy 0, 8, .inl (fun _ => 0)))] := hD
  subst h_2
  refine lv_aload_n hx hb dL_law_1638 rfl (lv_at hl 1 rfl) ?_
  refine lv_aload_n hx hb dL_law_1639 rfl (lv_at hl 3 rfl) ?_
  refine lv_iload_n hx hb dL_law_1640 rfl (lv_at hl 0 rfl) ?_
  refine lv_iconst (v := 1) hx hb dL_law_1641 (by decide) ?_
  refine lv_iadd hx hb dL_law_1642 ?_
  refine lv_seti (v := 1) (by decide) ?_
  refine va_sld hx hb hX hbl hbA hS (in_c rfl) dL_law_1643 ?_
  refine lv_seti (v := xs 1) (congrArg xs (by decide)) ?_
  refine lv_aload_n hx hb dL_law_1644 rfl (lv_at hl 3 rfl) ?_
  refine lv_iload_n hx hb dL_law_1645 rfl (lv_at hl 0 rfl) ?_
  refine lv_iconst (v := 2) hx hb dL_law_1646 (by decide) ?_
  refine lv_iadd hx hb dL_law_1647 ?_
  refine lv_seti (v := 2) (by decide) ?_
  refine va_sld hx hb hX hbl hbA hS (in_c rfl) dL_law_1648 ?_
  refine lv_seti (v := xs 2) (congrArg xs (by decide)) ?_
  refine kWi (wr := []) (rV (As := [.int (xs 1), .int (xs 2)]) (rest := [.int (sp_judge (xs 1) (xs 2))]) (b := qm) ⟨hx, hb, hml, hown, hts⟩ (p_X6_judge l G cy (H).size qm qms qmo qmz qmR qmv qmk qmb qmt qmr qmB qmO qmK qm_three qm_unread qm_tryRow qm_bestRow qm_steps (xs 1) (xs 2)) L_L_191 (preWV (q := (RX6, TX6, 35)) hN hP hD [0, 1, 2] rfl (by decide) 0 5 rfl rfl) rfl ⟨Nat.le_of_ble_eq_true rfl, Nat.le_of_ble_eq_true rfl⟩ hl.1 (Nat.le_of_ble_eq_true rfl) dL_law_1649 ⟨Nat.le_of_ble_eq_true rfl, Nat.le_of_ble_eq_true rfl⟩) hP hD hS hA [0, 1, 2] [] rfl rfl (by decide) (by decide) (fun r_4 u_6 H locs h_5 hP hD hS => ?_)
  obtain ⟨rfl, h_5⟩ := h_5
  have hP : va_P G CL [] H := hP
  have hD : va_D A [] := hD
  subst h_5
  refine lv_icmp_eq (tgt := 1808) hx hb dL_law_1652 (by decide) (fun _ => ?_) (fun h9 => absurd rfl h9)
  exact law_tail hx hb hr hml hX hbl hlocks hAn hbA hS (lv_sub hl [0, 3] rfl) (Nat.le_of_ble_eq_true rfl) (Nat.le_of_ble_eq_true rfl)
set_option maxHeartbeats 4000000 in
set_option maxRecDepth 100000 in
theorem law_42 {p : Program} {l : Launch} {e : Env} {s : State} {m : MethodId} {below : List Frame} {meth : Method} {c : Code} {b : Nat} {xs : Nat → Int32} {A : Nat → Prop} {G : va_G} {cy : Nat → ClassId} {H : Heap} {locs : List Loc} {ls : Array Slot} (qx : Nat) (qt : Nat) (qk : Nat) (qp : Nat) (qs : Nat) (qa : Nat) (qr : Nat) (qsh : Nat) (qss : Nat) (qsa : Nat) (qse : Nat) (fH : Nat → Int32) (qm : Nat) (qms : Nat) (qmo : Nat) (qmz : Nat) (qmR : Nat) (qmv : Nat) (qmk : Nat) (qmb : Nat) (qmt : Nat) (qmr : Nat) (qmB : Nat) (qmO : Nat) (qmK : Nat) (qm_three : Nat) (qm_unread : Nat) (qm_tryRow : Nat) (qm_bestRow : Nat) (qm_steps : Nat) (hx : p.tables.exec = Jvm.exec) (hb : c.code = code) (hr : meth.sig.returnType = ret) (hml : c.maxLocals = 4) (hown : s.vm.findClass RL = some m.cls) (hts : ∀ w ∈ BIG, w.before #[Value.ref b] s = true) (hX : va_X b 6 xs s s.heap) (hbl : b < s.heap.size) (hlocks : meth.locks = false) (hN : KN G cy s) (hA : ∀ q : Nat, s.heap.size ≤ q → A q) (hAn : ∀ q : Nat, A q → s.heap.size ≤ q) (hbA : ¬ A b) (hP : va_P G CL [(qx, .inr (4, [.ref qt, .ref qk, .ref qp, .ref qs, .ref qa, .ref qr, .int 0, .int 0, .int 0])), (qr, .inl (cy 0, 5, .inl (fun _ => 0))), (qs, .inr (1, [.ref qsh, .ref qss, .ref qsa, .ref qse])), (qsh, .inl (cy 0, 8, .inl fH)), (qm, .inr (5, [.ref qms, .ref qmo, .ref qmz, .ref qmR, .ref qmv, .ref qmk, .ref qmb, .ref qmt, .int 0, .ref qmr, .int 0, .ref qmB, .int 0, .ref qmO, .ref qmK, .int 0, .int 0, .int 1, .null, .null, .int 0, .int 0, .int 0, .long 0, .int 0, .ref qm_three, .int 0, .int 0, .int 0, .null, .ref qm_unread, .ref qm_tryRow, .ref qm_bestRow, .ref qm_steps, .int 0])), (qms, .inl (cy 0, 8, .inl (fun _ => 0))), (qmr, .inl (cy 0, 8, .inl (fun _ => 0)))] H) (hD : va_D A [(qx, .inr (4, [.ref qt, .ref qk, .ref qp, .ref qs, .ref qa, .ref qr, .int 0, .int 0, .int 0])), (qr, .inl (cy 0, 5, .inl (fun _ => 0))), (qs, .inr (1, [.ref qsh, .ref qss, .ref qsa, .ref qse])), (qsh, .inl (cy 0, 8, .inl fH)), (qm, .inr (5, [.ref qms, .ref qmo, .ref qmz, .ref qmR, .ref qmv, .ref qmk, .ref qmb, .ref qmt, .int 0, .ref qmr, .int 0, .ref qmB, .int 0, .ref qmO, .ref qmK, .int 0, .int 0, .int 1, .null, .null, .int 0, .int 0, .int 0, .long 0, .int 0, .ref qm_three, .int 0, .int 0, .int 0, .null, .ref qm_unread, .ref qm_tryRow, .ref qm_bestRow, .ref qm_steps, .int 0])), (qms, .inl (cy 0, 8, .inl (fun _ => 0))), (qmr, .inl (cy 0, 8, .inl (fun _ => 0)))]) (hS : va_S A s.heap H locs) (hl : lv_has ls 4 [(3, .int 0), (2, .ref qm), (1, .ref qx), (0, .ref b)]) (hH : ∀ i, i < 8 → fH i = -1) : W p l e room_1 s m #[Value.ref b] below meth c H locs 105 2176 (lw_Z below #[Value.ref b] s) (F0 m 1657 ls []) := by
  have hK := hN.1
  refine lv_aload_n hx hb dL_law_1657 rfl (lv_at hl 2 rfl) ?_
  refine lv_aload_n hx hb dL_law_1658 rfl (lv_at hl 3 rfl) ?_
  refine lv_iload_n hx hb dL_law_1659 rfl (lv_at hl 0 rfl) ?_
  refine lv_iconst (v := 1) hx hb dL_law_1660 (by decide) ?_
  refine lv_iadd hx hb dL_law_1661 ?_
  refine lv_seti (v := 1) (by decide) ?_
  refine va_sld hx hb hX hbl hbA hS (in_c rfl) dL_law_1662 ?_
  refine lv_seti (v := xs 1) (congrArg xs (by decide)) ?_
  refine lv_aload_n hx hb dL_law_1663 rfl (lv_at hl 3 rfl) ?_
  refine lv_iload_n hx hb dL_law_1664 rfl (lv_at hl 0 rfl) ?_
  refine lv_iconst (v := 2) hx hb dL_law_1665 (by decide) ?_
  refine lv_iadd hx hb dL_law_1666 ?_
  refine lv_seti (v := 2) (by decide) ?_
  refine va_sld hx hb hX hbl hbA hS (in_c rfl) dL_law_1667 ?_
  refine lv_seti (v := xs 2) (congrArg xs (by decide)) ?_
  refine kWi (wr := [(qm, .inr (5, [.ref qms, .ref qmo, .ref qmz, .ref qmR, .ref qmv, .ref qmk, .ref qmb, .ref qmt, .int 0, .ref qmr, .int 0, .ref qmB, .int 0, .ref qmO, .ref qmK, .int 0, .int 0, .int 1, .null, .null, .int 0, .int 0, .int 0, .long 0, .int 0, .ref qm_three, .int 0, .int 0, .int 0, .null, .ref qm_unread, .ref qm_tryRow, .ref qm_bestRow, .ref qm_steps, .int 0])), (qms, .inl (cy 0, 8, .inl (fun _ => 0))), (qmr, .inl (cy 0, 8, .inl (fun _ => 0)))]) (rV (As := [.int (xs 1), .int (xs 2)]) (rest := []) (b := qx) ⟨hx, hb, hml, hown, hts⟩ (p_X5_told l G cy (H).size qx qt qk qp qs qa qr qsh qss qsa qse fH (xs 1) (xs 2) hH) L_L_192 (preWV (q := (RX5, TX5, 9)) hN hP hD [0, 1, 2, 3] rfl (by decide) 0 4 rfl rfl) rfl ⟨Nat.le_of_ble_eq_true rfl, Nat.le_of_ble_eq_true rfl⟩ hl.1 (Nat.le_of_ble_eq_true rfl) dL_law_1668 ⟨Nat.le_of_ble_eq_true rfl, Nat.le_of_ble_eq_true rfl⟩) hP hD hS hA [0, 1, 2, 3] [4, 5, 6] rfl rfl (by decide) (by decide) (fun r_1 u_3 H locs h_2 hP hD hS => ?_)
  obtain ⟨rfl, h_2⟩ := h_2
  have hP : va_P G CL [(qm, .inr (5, [.ref qms, .ref qmo, .ref qmz, .ref qmR, .ref qmv, .ref qmk, .ref qmb, .ref qmt, .int 0, .ref qmr, .int 0, .ref qmB, .int 0, .ref qmO, .ref qmK, .int 0, .int 0, .int 1, .null, .null, .int 0, .int 0, .int 0, .long 0, .int 0, .ref qm_three, .int 0, .int 0, .int 0, .null, .ref qm_unread, .ref qm_tryRow, .ref qm_bestRow, .ref qm_steps, .int 0])), (qms, .inl (cy 0, 8, .inl (fun _ => 0))), (qmr, .inl (cy 0, 8, .inl (fun _ => 0)))] H := hP
  have hD : va_D A [(qm, .inr (5, [.ref qms, .ref qmo, .ref qmz, .ref qmR, .ref qmv, .ref qmk, .ref qmb, .ref qmt, .int 0, .ref qmr, .int 0, .ref qmB, .int 0, .ref qmO, .ref qmK, .int 0, .int 0, .int 1, .null, .null, .int 0, .int 0, .int 0, .long 0, .int 0, .ref qm_three, .int 0, .int 0, .int 0, .null, .ref qm_unread, .ref qm_tryRow, .ref qm_bestRow, .ref qm_steps, .int 0])), (qms, .inl (cy 0, 8, .inl (fun _ => 0))), (qmr, .inl (cy 0, 8, .inl (fun _ => 0)))] := hD
  subst h_2
  refine lv_aload_n hx hb dL_law_1671 rfl (lv_at hl 1 rfl) ?_
  refine lv_aload_n hx hb dL_law_1672 rfl (lv_at hl 3 rfl) ?_
  refine lv_iload_n hx hb dL_law_1673 rfl (lv_at hl 0 rfl) ?_
  refine lv_iconst (v := 1) hx hb dL_law_1674 (by decide) ?_
  refine lv_iadd hx hb dL_law_1675 ?_
  refine lv_seti (v := 1) (by decide) ?_
  refine va_sld hx hb hX hbl hbA hS (in_c rfl) dL_law_1676 ?_
  refine lv_seti (v := xs 1) (congrArg xs (by decide)) ?_
  refine lv_aload_n hx hb dL_law_1677 rfl (lv_at hl 3 rfl) ?_
  refine lv_iload_n hx hb dL_law_1678 rfl (lv_at hl 0 rfl) ?_
  refine lv_iconst (v := 2) hx hb dL_law_1679 (by decide) ?_
  refine lv_iadd hx hb dL_law_1680 ?_
  refine lv_seti (v := 2) (by decide) ?_
  refine va_sld hx hb hX hbl hbA hS (in_c rfl) dL_law_1681 ?_
  refine lv_seti (v := xs 2) (congrArg xs (by decide)) ?_
  refine kWi (wr := []) (rV (As := [.int (xs 1), .int (xs 2)]) (rest := [.int (sp_judge (xs 1) (xs 2))]) (b := qm) ⟨hx, hb, hml, hown, hts⟩ (p_X6_told l G cy (H).size qm qms qmo qmz qmR qmv qmk qmb qmt qmr qmB qmO qmK qm_three qm_unread qm_tryRow qm_bestRow qm_steps (xs 1) (xs 2)) L_L_195 (preWV (q := (RX6, TX6, 35)) hN hP hD [0, 1, 2] rfl (by decide) 0 5 rfl rfl) rfl ⟨Nat.le_of_ble_eq_true rfl, Nat.le_of_ble_eq_true rfl⟩ hl.1 (Nat.le_of_ble_eq_true rfl) dL_law_1682 ⟨Nat.le_of_ble_eq_true rfl, Nat.le_of_ble_eq_true rfl⟩) hP hD hS hA [0, 1, 2] [] rfl rfl (by decide) (by decide) (fun r_4 u_6 H locs h_5 hP hD hS => ?_)
  obtain ⟨rfl, h_5⟩ := h_5
  have hP : va_P G CL [] H := hP
  have hD : va_D A [] := hD
  subst h_5
  refine lv_icmp_eq (tgt := 1808) hx hb dL_law_1685 (by decide) (fun _ => ?_) (fun h9 => absurd rfl h9)
  exact law_tail hx hb hr hml hX hbl hlocks hAn hbA hS (lv_sub hl [0, 3] rfl) (Nat.le_of_ble_eq_true rfl) (Nat.le_of_ble_eq_true rfl)
set_option maxHeartbeats 4000000 in
set_option maxRecDepth 100000 in
theorem law_43 {p : Program} {l : Launch} {e : Env} {s : State} {m : MethodId} {below : List Frame} {meth : Method} {c : Code} {b : Nat} {xs : Nat → Int32} {A : Nat → Prop} {G : va_G} {cy : Nat → ClassId} {H : Heap} {locs : List Loc} {ls : Array Slot} (qx : Nat) (qt : Nat) (qk : Nat) (qp : Nat) (qs : Nat) (qa : Nat) (qr : Nat) (qsh : Nat) (qss : Nat) (qsa : Nat) (qse : Nat) (fH : Nat → Int32) (qm : Nat) (qms : Nat) (qmo : Nat) (qmz : Nat) (qmR : Nat) (qmv : Nat) (qmk : Nat) (qmb : Nat) (qmt : Nat) (qmr : Nat) (qmB : Nat) (qmO : Nat) (qmK : Nat) (qm_three : Nat) (qm_unread : Nat) (qm_tryRow : Nat) (qm_bestRow : Nat) (qm_steps : Nat) (hx : p.tables.exec = Jvm.exec) (hb : c.code = code) (hr : meth.sig.returnType = ret) (hml : c.maxLocals = 4) (hown : s.vm.findClass RL = some m.cls) (hts : ∀ w ∈ BIG, w.before #[Value.ref b] s = true) (hX : va_X b 6 xs s s.heap) (hbl : b < s.heap.size) (hlocks : meth.locks = false) (hN : KN G cy s) (hA : ∀ q : Nat, s.heap.size ≤ q → A q) (hAn : ∀ q : Nat, A q → s.heap.size ≤ q) (hbA : ¬ A b) (hP : va_P G CL [(qx, .inr (4, [.ref qt, .ref qk, .ref qp, .ref qs, .ref qa, .ref qr, .int 0, .int 0, .int 0])), (qr, .inl (cy 0, 5, .inl (fun _ => 0))), (qs, .inr (1, [.ref qsh, .ref qss, .ref qsa, .ref qse])), (qsh, .inl (cy 0, 8, .inl fH)), (qm, .inr (5, [.ref qms, .ref qmo, .ref qmz, .ref qmR, .ref qmv, .ref qmk, .ref qmb, .ref qmt, .int 0, .ref qmr, .int 0, .ref qmB, .int 0, .ref qmO, .ref qmK, .int 0, .int 0, .int 1, .null, .null, .int 0, .int 0, .int 0, .long 0, .int 0, .ref qm_three, .int 0, .int 0, .int 0, .null, .ref qm_unread, .ref qm_tryRow, .ref qm_bestRow, .ref qm_steps, .int 0])), (qms, .inl (cy 0, 8, .inl (fun _ => 0))), (qmr, .inl (cy 0, 8, .inl (fun _ => 0)))] H) (hD : va_D A [(qx, .inr (4, [.ref qt, .ref qk, .ref qp, .ref qs, .ref qa, .ref qr, .int 0, .int 0, .int 0])), (qr, .inl (cy 0, 5, .inl (fun _ => 0))), (qs, .inr (1, [.ref qsh, .ref qss, .ref qsa, .ref qse])), (qsh, .inl (cy 0, 8, .inl fH)), (qm, .inr (5, [.ref qms, .ref qmo, .ref qmz, .ref qmR, .ref qmv, .ref qmk, .ref qmb, .ref qmt, .int 0, .ref qmr, .int 0, .ref qmB, .int 0, .ref qmO, .ref qmK, .int 0, .int 0, .int 1, .null, .null, .int 0, .int 0, .int 0, .long 0, .int 0, .ref qm_three, .int 0, .int 0, .int 0, .null, .ref qm_unread, .ref qm_tryRow, .ref qm_bestRow, .ref qm_steps, .int 0])), (qms, .inl (cy 0, 8, .inl (fun _ => 0))), (qmr, .inl (cy 0, 8, .inl (fun _ => 0)))]) (hS : va_S A s.heap H locs) (hl : lv_has ls 4 [(3, .int 0), (2, .ref qm), (1, .ref qx), (0, .ref b)]) (hH : ∀ i, i < 8 → fH i = -1) : W p l e room_1 s m #[Value.ref b] below meth c H locs 105 2176 (lw_Z below #[Value.ref b] s) (F0 m 1690 ls []) := by
  have hK := hN.1
  refine lv_aload_n hx hb dL_law_1690 rfl (lv_at hl 2 rfl) ?_
  refine lv_aload_n hx hb dL_law_1691 rfl (lv_at hl 3 rfl) ?_
  refine lv_iload_n hx hb dL_law_1692 rfl (lv_at hl 0 rfl) ?_
  refine lv_iconst (v := 1) hx hb dL_law_1693 (by decide) ?_
  refine lv_iadd hx hb dL_law_1694 ?_
  refine lv_seti (v := 1) (by decide) ?_
  refine va_sld hx hb hX hbl hbA hS (in_c rfl) dL_law_1695 ?_
  refine lv_seti (v := xs 1) (congrArg xs (by decide)) ?_
  refine lv_aload_n hx hb dL_law_1696 rfl (lv_at hl 3 rfl) ?_
  refine lv_iload_n hx hb dL_law_1697 rfl (lv_at hl 0 rfl) ?_
  refine lv_iconst (v := 2) hx hb dL_law_1698 (by decide) ?_
  refine lv_iadd hx hb dL_law_1699 ?_
  refine lv_seti (v := 2) (by decide) ?_
  refine va_sld hx hb hX hbl hbA hS (in_c rfl) dL_law_1700 ?_
  refine lv_seti (v := xs 2) (congrArg xs (by decide)) ?_
  refine kWi (wr := [(qm, .inr (5, [.ref qms, .ref qmo, .ref qmz, .ref qmR, .ref qmv, .ref qmk, .ref qmb, .ref qmt, .int 0, .ref qmr, .int 0, .ref qmB, .int 0, .ref qmO, .ref qmK, .int 0, .int 0, .int 1, .null, .null, .int 0, .int 0, .int 0, .long 0, .int 0, .ref qm_three, .int 0, .int 0, .int 0, .null, .ref qm_unread, .ref qm_tryRow, .ref qm_bestRow, .ref qm_steps, .int 0])), (qms, .inl (cy 0, 8, .inl (fun _ => 0))), (qmr, .inl (cy 0, 8, .inl (fun _ => 0)))]) (rV (As := [.int (xs 1), .int (xs 2)]) (rest := []) (b := qx) ⟨hx, hb, hml, hown, hts⟩ (p_X5_years l G cy (H).size qx qt qk qp qs qa qr qsh qss qsa qse fH (xs 1) (xs 2) hH) L_L_196 (preWV (q := (RX5, TX5, 9)) hN hP hD [0, 1, 2, 3] rfl (by decide) 0 4 rfl rfl) rfl ⟨Nat.le_of_ble_eq_true rfl, Nat.le_of_ble_eq_true rfl⟩ hl.1 (Nat.le_of_ble_eq_true rfl) dL_law_1701 ⟨Nat.le_of_ble_eq_true rfl, Nat.le_of_ble_eq_true rfl⟩) hP hD hS hA [0, 1, 2, 3] [4, 5, 6] rfl rfl (by decide) (by decide) (fun r_1 u_3 H locs h_2 hP hD hS => ?_)
  obtain ⟨rfl, h_2⟩ := h_2
  have hP : va_P G CL [(qm, .inr (5, [.ref qms, .ref qmo, .ref qmz, .ref qmR, .ref qmv, .ref qmk, .ref qmb, .ref qmt, .int 0, .ref qmr, .int 0, .ref qmB, .int 0, .ref qmO, .ref qmK, .int 0, .int 0, .int 1, .null, .null, .int 0, .int 0, .int 0, .long 0, .int 0, .ref qm_three, .int 0, .int 0, .int 0, .null, .ref qm_unread, .ref qm_tryRow, .ref qm_bestRow, .ref qm_steps, .int 0])), (qms, .inl (cy 0, 8, .inl (fun _ => 0))), (qmr, .inl (cy 0, 8, .inl (fun _ => 0)))] H := hP
  have hD : va_D A [(qm, .inr (5, [.ref qms, .ref qmo, .ref qmz, .ref qmR, .ref qmv, .ref qmk, .ref qmb, .ref qmt, .int 0, .ref qmr, .int 0, .ref qmB, .int 0, .ref qmO, .ref qmK, .int 0, .int 0, .int 1, .null, .null, .int 0, .int 0, .int 0, .long 0, .int 0, .ref qm_three, .int 0, .int 0, .int 0, .null, .ref qm_unread, .ref qm_tryRow, .ref qm_bestRow, .ref qm_steps, .int 0])), (qms, .inl (cy 0, 8, .inl (fun _ => 0))), (qmr, .inl (cy 0, 8, .inl (fun _ => 0)))] := hD
  subst h_2
  refine lv_aload_n hx hb dL_law_1704 rfl (lv_at hl 1 rfl) ?_
  refine lv_aload_n hx hb dL_law_1705 rfl (lv_at hl 3 rfl) ?_
  refine lv_iload_n hx hb dL_law_1706 rfl (lv_at hl 0 rfl) ?_
  refine lv_iconst (v := 1) hx hb dL_law_1707 (by decide) ?_
  refine lv_iadd hx hb dL_law_1708 ?_
  refine lv_seti (v := 1) (by decide) ?_
  refine va_sld hx hb hX hbl hbA hS (in_c rfl) dL_law_1709 ?_
  refine lv_seti (v := xs 1) (congrArg xs (by decide)) ?_
  refine lv_aload_n hx hb dL_law_1710 rfl (lv_at hl 3 rfl) ?_
  refine lv_iload_n hx hb dL_law_1711 rfl (lv_at hl 0 rfl) ?_
  refine lv_iconst (v := 2) hx hb dL_law_1712 (by decide) ?_
  refine lv_iadd hx hb dL_law_1713 ?_
  refine lv_seti (v := 2) (by decide) ?_
  refine va_sld hx hb hX hbl hbA hS (in_c rfl) dL_law_1714 ?_
  refine lv_seti (v := xs 2) (congrArg xs (by decide)) ?_
  refine kWi (wr := []) (rV (As := [.int (xs 1), .int (xs 2)]) (rest := [.int (sp_years (xs 1) (xs 2))]) (b := qm) ⟨hx, hb, hml, hown, hts⟩ (p_X6_years l G cy (H).size qm qms qmo qmz qmR qmv qmk qmb qmt qmr qmB qmO qmK qm_three qm_unread qm_tryRow qm_bestRow qm_steps (xs 1) (xs 2)) L_L_199 (preWV (q := (RX6, TX6, 35)) hN hP hD [0, 1, 2] rfl (by decide) 0 5 rfl rfl) rfl ⟨Nat.le_of_ble_eq_true rfl, Nat.le_of_ble_eq_true rfl⟩ hl.1 (Nat.le_of_ble_eq_true rfl) dL_law_1715 ⟨Nat.le_of_ble_eq_true rfl, Nat.le_of_ble_eq_true rfl⟩) hP hD hS hA [0, 1, 2] [] rfl rfl (by decide) (by decide) (fun r_4 u_6 H locs h_5 hP hD hS => ?_)
  obtain ⟨rfl, h_5⟩ := h_5
  have hP : va_P G CL [] H := hP
  have hD : va_D A [] := hD
  subst h_5
  refine lv_icmp_eq (tgt := 1808) hx hb dL_law_1718 (by decide) (fun _ => ?_) (fun h9 => absurd rfl h9)
  exact law_tail hx hb hr hml hX hbl hlocks hAn hbA hS (lv_sub hl [0, 3] rfl) (Nat.le_of_ble_eq_true rfl) (Nat.le_of_ble_eq_true rfl)
set_option maxHeartbeats 4000000 in
set_option maxRecDepth 100000 in
theorem law_44 {p : Program} {l : Launch} {e : Env} {s : State} {m : MethodId} {below : List Frame} {meth : Method} {c : Code} {b : Nat} {xs : Nat → Int32} {A : Nat → Prop} {G : va_G} {cy : Nat → ClassId} {H : Heap} {locs : List Loc} {ls : Array Slot} (qx : Nat) (qt : Nat) (qk : Nat) (qp : Nat) (qs : Nat) (qa : Nat) (qr : Nat) (qtw : Nat) (qtn : Nat) (qtg : Nat) (qta : Nat) (qtr : Nat) (qtm : Nat) (qtt : Nat) (qts : Nat) (qm : Nat) (qms : Nat) (qmo : Nat) (qmz : Nat) (qmR : Nat) (qmv : Nat) (qmk : Nat) (qmb : Nat) (qmt : Nat) (qmr : Nat) (qmB : Nat) (qmO : Nat) (qmK : Nat) (qm_three : Nat) (qm_unread : Nat) (qm_tryRow : Nat) (qm_bestRow : Nat) (qm_steps : Nat) (hx : p.tables.exec = Jvm.exec) (hb : c.code = code) (hr : meth.sig.returnType = ret) (hml : c.maxLocals = 4) (hown : s.vm.findClass RL = some m.cls) (hts : ∀ w ∈ BIG, w.before #[Value.ref b] s = true) (hX : va_X b 6 xs s s.heap) (hbl : b < s.heap.size) (hlocks : meth.locks = false) (hN : KN G cy s) (hA : ∀ q : Nat, s.heap.size ≤ q → A q) (hAn : ∀ q : Nat, A q → s.heap.size ≤ q) (hbA : ¬ A b) (hP : va_P G CL [(qx, .inr (4, [.ref qt, .ref qk, .ref qp, .ref qs, .ref qa, .ref qr, .int 0, .int 0, .int 0])), (qt, .inr (3, [.int 0, .int 0, .int 0, .int 0, .int 1, .ref qtw, .ref qtn, .ref qtg, .ref qta, .ref qtr, .ref qtm, .ref qtt, .ref qts])), (qm, .inr (5, [.ref qms, .ref qmo, .ref qmz, .ref qmR, .ref qmv, .ref qmk, .ref qmb, .ref qmt, .int 0, .ref qmr, .int 0, .ref qmB, .int 0, .ref qmO, .ref qmK, .int 0, .int 0, .int 1, .null, .null, .int 0, .int 0, .int 0, .long 0, .int 0, .ref qm_three, .int 0, .int 0, .int 0, .null, .ref qm_unread, .ref qm_tryRow, .ref qm_bestRow, .ref qm_steps, .int 0]))] H) (hD : va_D A [(qx, .inr (4, [.ref qt, .ref qk, .ref qp, .ref qs, .ref qa, .ref qr, .int 0, .int 0, .int 0])), (qt, .inr (3, [.int 0, .int 0, .int 0, .int 0, .int 1, .ref qtw, .ref qtn, .ref qtg, .ref qta, .ref qtr, .ref qtm, .ref qtt, .ref qts])), (qm, .inr (5, [.ref qms, .ref qmo, .ref qmz, .ref qmR, .ref qmv, .ref qmk, .ref qmb, .ref qmt, .int 0, .ref qmr, .int 0, .ref qmB, .int 0, .ref qmO, .ref qmK, .int 0, .int 0, .int 1, .null, .null, .int 0, .int 0, .int 0, .long 0, .int 0, .ref qm_three, .int 0, .int 0, .int 0, .null, .ref qm_unread, .ref qm_tryRow, .ref qm_bestRow, .ref qm_steps, .int 0]))]) (hS : va_S A s.heap H locs) (hl : lv_has ls 4 [(3, .int 0), (2, .ref qm), (1, .ref qx), (0, .ref b)]) : W p l e room_1 s m #[Value.ref b] below meth c H locs 105 2176 (lw_Z below #[Value.ref b] s) (F0 m 1723 ls []) := by
  have hK := hN.1
  refine lv_aload_n hx hb dL_law_1723 rfl (lv_at hl 2 rfl) ?_
  refine kWi (wr := [(qm, .inr (5, [.ref qms, .ref qmo, .ref qmz, .ref qmR, .ref qmv, .ref qmk, .ref qmb, .ref qmt, .int 0, .ref qmr, .int 0, .ref qmB, .int 0, .ref qmO, .ref qmK, .int 0, .int 0, .int 1, .null, .null, .int 0, .int 0, .int 0, .long 0, .int 0, .ref qm_three, .int 0, .int 0, .int 0, .null, .ref qm_unread, .ref qm_tryRow, .ref qm_bestRow, .ref qm_steps, .int 0]))]) (rV (As := []) (rest := []) (b := qx) ⟨hx, hb, hml, hown, hts⟩ (p_X5_ends l G cy (H).size qx qt qk qp qs qa qr qtw qtn qtg qta qtr qtm qtt qts) L_L_200 (preWV (q := (RX5, TX5, 9)) hN hP hD [0, 1] rfl (by decide) 0 4 rfl rfl) rfl ⟨Nat.le_of_ble_eq_true rfl, Nat.le_of_ble_eq_true rfl⟩ hl.1 (Nat.le_of_ble_eq_true rfl) dL_law_1724 ⟨Nat.le_of_ble_eq_true rfl, Nat.le_of_ble_eq_true rfl⟩) hP hD hS hA [0, 1] [2] rfl rfl (by decide) (by decide) (fun r_1 u_3 H locs h_2 hP hD hS => ?_)
  obtain ⟨rfl, h_2⟩ := h_2
  have hP : va_P G CL [(qm, .inr (5, [.ref qms, .ref qmo, .ref qmz, .ref qmR, .ref qmv, .ref qmk, .ref qmb, .ref qmt, .int 0, .ref qmr, .int 0, .ref qmB, .int 0, .ref qmO, .ref qmK, .int 0, .int 0, .int 1, .null, .null, .int 0, .int 0, .int 0, .long 0, .int 0, .ref qm_three, .int 0, .int 0, .int 0, .null, .ref qm_unread, .ref qm_tryRow, .ref qm_bestRow, .ref qm_steps, .int 0]))] H := hP
  have hD : va_D A [(qm, .inr (5, [.ref qms, .ref qmo, .ref qmz, .ref qmR, .ref qmv, .ref qmk, .ref qmb, .ref qmt, .int 0, .ref qmr, .int 0, .ref qmB, .int 0, .ref qmO, .ref qmK, .int 0, .int 0, .int 1, .null, .null, .int 0, .int 0, .int 0, .long 0, .int 0, .ref qm_three, .int 0, .int 0, .int 0, .null, .ref qm_unread, .ref qm_tryRow, .ref qm_bestRow, .ref qm_steps, .int 0]))] := hD
  subst h_2
  refine lv_aload_n hx hb dL_law_1727 rfl (lv_at hl 1 rfl) ?_
  refine kWi (wr := []) (rV (As := []) (rest := [.int 0]) (b := qm) ⟨hx, hb, hml, hown, hts⟩ (p_X6_ends l G cy (H).size qm qms qmo qmz qmR qmv qmk qmb qmt qmr qmB qmO qmK qm_three qm_unread qm_tryRow qm_bestRow qm_steps) L_L_203 (preWV (q := (RX6, TX6, 35)) hN hP hD [0] rfl (by decide) 0 5 rfl rfl) rfl ⟨Nat.le_of_ble_eq_true rfl, Nat.le_of_ble_eq_true rfl⟩ hl.1 (Nat.le_of_ble_eq_true rfl) dL_law_1728 ⟨Nat.le_of_ble_eq_true rfl, Nat.le_of_ble_eq_true rfl⟩) hP hD hS hA [0] [] rfl rfl (by decide) (by decide) (fun r_4 u_6 H locs h_5 hP hD hS => ?_)
  obtain ⟨rfl, h_5⟩ := h_5
  have hP : va_P G CL [] H := hP
  have hD : va_D A [] := hD
  subst h_5
  refine lv_icmp_eq (tgt := 1808) hx hb dL_law_1731 (by decide) (fun _ => ?_) (fun h9 => absurd (by decide) h9)
  exact law_tail hx hb hr hml hX hbl hlocks hAn hbA hS (lv_sub hl [0, 3] rfl) (Nat.le_of_ble_eq_true rfl) (Nat.le_of_ble_eq_true rfl)
set_option maxHeartbeats 4000000 in
set_option maxRecDepth 100000 in
theorem law_45 {p : Program} {l : Launch} {e : Env} {s : State} {m : MethodId} {below : List Frame} {meth : Method} {c : Code} {b : Nat} {xs : Nat → Int32} {A : Nat → Prop} {G : va_G} {cy : Nat → ClassId} {H : Heap} {locs : List Loc} {ls : Array Slot} (qx : Nat) (qt : Nat) (qk : Nat) (qp : Nat) (qs : Nat) (qa : Nat) (qr : Nat) (qtw : Nat) (qtn : Nat) (qtg : Nat) (qta : Nat) (qtr : Nat) (qtm : Nat) (qtt : Nat) (qts : Nat) (qm : Nat) (qms : Nat) (qmo : Nat) (qmz : Nat) (qmR : Nat) (qmv : Nat) (qmk : Nat) (qmb : Nat) (qmt : Nat) (qmr : Nat) (qmB : Nat) (qmO : Nat) (qmK : Nat) (qm_three : Nat) (qm_unread : Nat) (qm_tryRow : Nat) (qm_bestRow : Nat) (qm_steps : Nat) (hx : p.tables.exec = Jvm.exec) (hb : c.code = code) (hr : meth.sig.returnType = ret) (hml : c.maxLocals = 4) (hown : s.vm.findClass RL = some m.cls) (hts : ∀ w ∈ BIG, w.before #[Value.ref b] s = true) (hX : va_X b 6 xs s s.heap) (hbl : b < s.heap.size) (hlocks : meth.locks = false) (hN : KN G cy s) (hA : ∀ q : Nat, s.heap.size ≤ q → A q) (hAn : ∀ q : Nat, A q → s.heap.size ≤ q) (hbA : ¬ A b) (hP : va_P G CL [(qx, .inr (4, [.ref qt, .ref qk, .ref qp, .ref qs, .ref qa, .ref qr, .int 0, .int 0, .int 0])), (qt, .inr (3, [.int 0, .int 0, .int 0, .int 0, .int 1, .ref qtw, .ref qtn, .ref qtg, .ref qta, .ref qtr, .ref qtm, .ref qtt, .ref qts])), (qm, .inr (5, [.ref qms, .ref qmo, .ref qmz, .ref qmR, .ref qmv, .ref qmk, .ref qmb, .ref qmt, .int 0, .ref qmr, .int 0, .ref qmB, .int 0, .ref qmO, .ref qmK, .int 0, .int 0, .int 1, .null, .null, .int 0, .int 0, .int 0, .long 0, .int 0, .ref qm_three, .int 0, .int 0, .int 0, .null, .ref qm_unread, .ref qm_tryRow, .ref qm_bestRow, .ref qm_steps, .int 0]))] H) (hD : va_D A [(qx, .inr (4, [.ref qt, .ref qk, .ref qp, .ref qs, .ref qa, .ref qr, .int 0, .int 0, .int 0])), (qt, .inr (3, [.int 0, .int 0, .int 0, .int 0, .int 1, .ref qtw, .ref qtn, .ref qtg, .ref qta, .ref qtr, .ref qtm, .ref qtt, .ref qts])), (qm, .inr (5, [.ref qms, .ref qmo, .ref qmz, .ref qmR, .ref qmv, .ref qmk, .ref qmb, .ref qmt, .int 0, .ref qmr, .int 0, .ref qmB, .int 0, .ref qmO, .ref qmK, .int 0, .int 0, .int 1, .null, .null, .int 0, .int 0, .int 0, .long 0, .int 0, .ref qm_three, .int 0, .int 0, .int 0, .null, .ref qm_unread, .ref qm_tryRow, .ref qm_bestRow, .ref qm_steps, .int 0]))]) (hS : va_S A s.heap H locs) (hl : lv_has ls 4 [(3, .int 0), (2, .ref qm), (1, .ref qx), (0, .ref b)]) : W p l e room_1 s m #[Value.ref b] below meth c H locs 105 2176 (lw_Z below #[Value.ref b] s) (F0 m 1736 ls []) := by
  have hK := hN.1
  refine lv_aload_n hx hb dL_law_1736 rfl (lv_at hl 2 rfl) ?_
  refine lv_aload_n hx hb dL_law_1737 rfl (lv_at hl 3 rfl) ?_
  refine lv_iload_n hx hb dL_law_1738 rfl (lv_at hl 0 rfl) ?_
  refine lv_iconst (v := 1) hx hb dL_law_1739 (by decide) ?_
  refine lv_iadd hx hb dL_law_1740 ?_
  refine lv_seti (v := 1) (by decide) ?_
  refine va_sld hx hb hX hbl hbA hS (in_c rfl) dL_law_1741 ?_
  refine lv_seti (v := xs 1) (congrArg xs (by decide)) ?_
  refine kWi (wr := [(qm, .inr (5, [.ref qms, .ref qmo, .ref qmz, .ref qmR, .ref qmv, .ref qmk, .ref qmb, .ref qmt, .int 0, .ref qmr, .int 0, .ref qmB, .int 0, .ref qmO, .ref qmK, .int 0, .int 0, .int 1, .null, .null, .int 0, .int 0, .int 0, .long 0, .int 0, .ref qm_three, .int 0, .int 0, .int 0, .null, .ref qm_unread, .ref qm_tryRow, .ref qm_bestRow, .ref qm_steps, .int 0]))]) (rV (As := [.int (xs 1)]) (rest := []) (b := qx) ⟨hx, hb, hml, hown, hts⟩ (p_X5_seed l G cy (H).size qx qt qk qp qs qa qr qtw qtn qtg qta qtr qtm qtt qts (xs 1)) L_L_204 (preWV (q := (RX5, TX5, 9)) hN hP hD [0, 1] rfl (by decide) 0 4 rfl rfl) rfl ⟨Nat.le_of_ble_eq_true rfl, Nat.le_of_ble_eq_true rfl⟩ hl.1 (Nat.le_of_ble_eq_true rfl) dL_law_1742 ⟨Nat.le_of_ble_eq_true rfl, Nat.le_of_ble_eq_true rfl⟩) hP hD hS hA [0, 1] [2] rfl rfl (by decide) (by decide) (fun r_1 u_3 H locs h_2 hP hD hS => ?_)
  obtain ⟨rfl, h_2⟩ := h_2
  have hP : va_P G CL [(qm, .inr (5, [.ref qms, .ref qmo, .ref qmz, .ref qmR, .ref qmv, .ref qmk, .ref qmb, .ref qmt, .int 0, .ref qmr, .int 0, .ref qmB, .int 0, .ref qmO, .ref qmK, .int 0, .int 0, .int 1, .null, .null, .int 0, .int 0, .int 0, .long 0, .int 0, .ref qm_three, .int 0, .int 0, .int 0, .null, .ref qm_unread, .ref qm_tryRow, .ref qm_bestRow, .ref qm_steps, .int 0]))] H := hP
  have hD : va_D A [(qm, .inr (5, [.ref qms, .ref qmo, .ref qmz, .ref qmR, .ref qmv, .ref qmk, .ref qmb, .ref qmt, .int 0, .ref qmr, .int 0, .ref qmB, .int 0, .ref qmO, .ref qmK, .int 0, .int 0, .int 1, .null, .null, .int 0, .int 0, .int 0, .long 0, .int 0, .ref qm_three, .int 0, .int 0, .int 0, .null, .ref qm_unread, .ref qm_tryRow, .ref qm_bestRow, .ref qm_steps, .int 0]))] := hD
  subst h_2
  refine lv_aload_n hx hb dL_law_1745 rfl (lv_at hl 1 rfl) ?_
  refine lv_aload_n hx hb dL_law_1746 rfl (lv_at hl 3 rfl) ?_
  refine lv_iload_n hx hb dL_law_1747 rfl (lv_at hl 0 rfl) ?_
  refine lv_iconst (v := 1) hx hb dL_law_1748 (by decide) ?_
  refine lv_iadd hx hb dL_law_1749 ?_
  refine lv_seti (v := 1) (by decide) ?_
  refine va_sld hx hb hX hbl hbA hS (in_c rfl) dL_law_1750 ?_
  refine lv_seti (v := xs 1) (congrArg xs (by decide)) ?_
  refine kWi (wr := []) (rV (As := [.int (xs 1)]) (rest := [.int 1]) (b := qm) ⟨hx, hb, hml, hown, hts⟩ (p_X6_seed l G cy (H).size qm qms qmo qmz qmR qmv qmk qmb qmt qmr qmB qmO qmK qm_three qm_unread qm_tryRow qm_bestRow qm_steps (xs 1)) L_L_207 (preWV (q := (RX6, TX6, 35)) hN hP hD [0] rfl (by decide) 0 5 rfl rfl) rfl ⟨Nat.le_of_ble_eq_true rfl, Nat.le_of_ble_eq_true rfl⟩ hl.1 (Nat.le_of_ble_eq_true rfl) dL_law_1751 ⟨Nat.le_of_ble_eq_true rfl, Nat.le_of_ble_eq_true rfl⟩) hP hD hS hA [0] [] rfl rfl (by decide) (by decide) (fun r_4 u_6 H locs h_5 hP hD hS => ?_)
  obtain ⟨rfl, h_5⟩ := h_5
  have hP : va_P G CL [] H := hP
  have hD : va_D A [] := hD
  subst h_5
  refine lv_icmp_eq (tgt := 1808) hx hb dL_law_1754 (by decide) (fun _ => ?_) (fun h9 => absurd (by decide) h9)
  exact law_tail hx hb hr hml hX hbl hlocks hAn hbA hS (lv_sub hl [0, 3] rfl) (Nat.le_of_ble_eq_true rfl) (Nat.le_of_ble_eq_true rfl)
set_option maxHeartbeats 4000000 in
set_option maxRecDepth 100000 in
theorem law_46 {p : Program} {l : Launch} {e : Env} {s : State} {m : MethodId} {below : List Frame} {meth : Method} {c : Code} {b : Nat} {xs : Nat → Int32} {A : Nat → Prop} {G : va_G} {cy : Nat → ClassId} {H : Heap} {locs : List Loc} {ls : Array Slot} (qx : Nat) (qt : Nat) (qk : Nat) (qp : Nat) (qs : Nat) (qa : Nat) (qr : Nat) (qtw : Nat) (qtn : Nat) (qtg : Nat) (qta : Nat) (qtr : Nat) (qtm : Nat) (qtt : Nat) (qts : Nat) (qkw : Nat) (qkn : Nat) (qkg : Nat) (qka : Nat) (qkr : Nat) (qkm : Nat) (qkt : Nat) (qks : Nat) (qm : Nat) (qms : Nat) (qmo : Nat) (qmz : Nat) (qmR : Nat) (qmv : Nat) (qmk : Nat) (qmb : Nat) (qmt : Nat) (qmr : Nat) (qmB : Nat) (qmO : Nat) (qmK : Nat) (qm_three : Nat) (qm_unread : Nat) (qm_tryRow : Nat) (qm_bestRow : Nat) (qm_steps : Nat) (rB : Nat → Nat) (rO : Nat → Nat) (rK : Nat → Nat) (hx : p.tables.exec = Jvm.exec) (hb : c.code = code) (hr : meth.sig.returnType = ret) (hml : c.maxLocals = 4) (hown : s.vm.findClass RL = some m.cls) (hts : ∀ w ∈ BIG, w.before #[Value.ref b] s = true) (hX : va_X b 6 xs s s.heap) (hbl : b < s.heap.size) (hlocks : meth.locks = false) (hN : KN G cy s) (hA : ∀ q : Nat, s.heap.size ≤ q → A q) (hAn : ∀ q : Nat, A q → s.heap.size ≤ q) (hbA : ¬ A b) (hP : va_P G CL [(qx, .inr (4, [.ref qt, .ref qk, .ref qp, .ref qs, .ref qa, .ref qr, .int 0, .int 0, .int 0])), (qt, .inr (3, [.int 0, .int 0, .int 0, .int 0, .int 1, .ref qtw, .ref qtn, .ref qtg, .ref qta, .ref qtr, .ref qtm, .ref qtt, .ref qts])), (qtw, .inl (cy 0, 8, .inl (fun _ => 0))), (qtn, .inl (cy 0, 8, .inl (fun _ => 0))), (qtg, .inl (cy 0, 8, .inl (fun _ => 0))), (qta, .inl (cy 0, 8, .inl (fun _ => 0))), (qtr, .inl (cy 0, 8, .inl (fun _ => 0))), (qtm, .inl (cy 0, 8, .inl (fun _ => 0))), (qtt, .inl (cy 0, 8, .inl (fun _ => 0))), (qts, .inl (cy 0, 64, .inl (fun _ => 0))), (qk, .inr (3, [.int 0, .int 0, .int 0, .int 0, .int 1, .ref qkw, .ref qkn, .ref qkg, .ref qka, .ref qkr, .ref qkm, .ref qkt, .ref qks])), (qkw, .inl (cy 0, 8, .inl (fun _ => 0))), (qkn, .inl (cy 0, 8, .inl (fun _ => 0))), (qkg, .inl (cy 0, 8, .inl (fun _ => 0))), (qka, .inl (cy 0, 8, .inl (fun _ => 0))), (qkr, .inl (cy 0, 8, .inl (fun _ => 0))), (qkm, .inl (cy 0, 8, .inl (fun _ => 0))), (qkt, .inl (cy 0, 8, .inl (fun _ => 0))), (qks, .inl (cy 0, 64, .inl (fun _ => 0))), (qm, .inr (5, [.ref qms, .ref qmo, .ref qmz, .ref qmR, .ref qmv, .ref qmk, .ref qmb, .ref qmt, .int 0, .ref qmr, .int 0, .ref qmB, .int 0, .ref qmO, .ref qmK, .int 0, .int 0, .int 1, .null, .null, .int 0, .int 0, .int 0, .long 0, .int 0, .ref qm_three, .int 0, .int 0, .int 0, .null, .ref qm_unread, .ref qm_tryRow, .ref qm_bestRow, .ref qm_steps, .int 0])), (qmB, .inl (cy 3, 8, .inr (.inr (.inr (.inr (fun i => if i < 8 then some (rB i) else none)))))), (rB 0, .inl (cy 0, 4, .inl (fun _ => 0))), (rB 1, .inl (cy 0, 4, .inl (fun _ => 0))), (rB 2, .inl (cy 0, 4, .inl (fun _ => 0))), (rB 3, .inl (cy 0, 4, .inl (fun _ => 0))), (rB 4, .inl (cy 0, 4, .inl (fun _ => 0))), (rB 5, .inl (cy 0, 4, .inl (fun _ => 0))), (rB 6, .inl (cy 0, 4, .inl (fun _ => 0))), (rB 7, .inl (cy 0, 4, .inl (fun _ => 0))), (qmO, .inl (cy 3, 8, .inr (.inr (.inr (.inr (fun i => if i < 8 then some (rO i) else none)))))), (rO 0, .inl (cy 0, 5, .inl (fun _ => 0))), (rO 1, .inl (cy 0, 5, .inl (fun _ => 0))), (rO 2, .inl (cy 0, 5, .inl (fun _ => 0))), (rO 3, .inl (cy 0, 5, .inl (fun _ => 0))), (rO 4, .inl (cy 0, 5, .inl (fun _ => 0))), (rO 5, .inl (cy 0, 5, .inl (fun _ => 0))), (rO 6, .inl (cy 0, 5, .inl (fun _ => 0))), (rO 7, .inl (cy 0, 5, .inl (fun _ => 0))), (qmK, .inl (cy 3, 8, .inr (.inr (.inr (.inr (fun i => if i < 8 then some (rK i) else none)))))), (rK 0, .inl (cy 0, 8, .inl (fun _ => 0))), (rK 1, .inl (cy 0, 8, .inl (fun _ => 0))), (rK 2, .inl (cy 0, 8, .inl (fun _ => 0))), (rK 3, .inl (cy 0, 8, .inl (fun _ => 0))), (rK 4, .inl (cy 0, 8, .inl (fun _ => 0))), (rK 5, .inl (cy 0, 8, .inl (fun _ => 0))), (rK 6, .inl (cy 0, 8, .inl (fun _ => 0))), (rK 7, .inl (cy 0, 8, .inl (fun _ => 0)))] H) (hD : va_D A [(qx, .inr (4, [.ref qt, .ref qk, .ref qp, .ref qs, .ref qa, .ref qr, .int 0, .int 0, .int 0])), (qt, .inr (3, [.int 0, .int 0, .int 0, .int 0, .int 1, .ref qtw, .ref qtn, .ref qtg, .ref qta, .ref qtr, .ref qtm, .ref qtt, .ref qts])), (qtw, .inl (cy 0, 8, .inl (fun _ => 0))), (qtn, .inl (cy 0, 8, .inl (fun _ => 0))), (qtg, .inl (cy 0, 8, .inl (fun _ => 0))), (qta, .inl (cy 0, 8, .inl (fun _ => 0))), (qtr, .inl (cy 0, 8, .inl (fun _ => 0))), (qtm, .inl (cy 0, 8, .inl (fun _ => 0))), (qtt, .inl (cy 0, 8, .inl (fun _ => 0))), (qts, .inl (cy 0, 64, .inl (fun _ => 0))), (qk, .inr (3, [.int 0, .int 0, .int 0, .int 0, .int 1, .ref qkw, .ref qkn, .ref qkg, .ref qka, .ref qkr, .ref qkm, .ref qkt, .ref qks])), (qkw, .inl (cy 0, 8, .inl (fun _ => 0))), (qkn, .inl (cy 0, 8, .inl (fun _ => 0))), (qkg, .inl (cy 0, 8, .inl (fun _ => 0))), (qka, .inl (cy 0, 8, .inl (fun _ => 0))), (qkr, .inl (cy 0, 8, .inl (fun _ => 0))), (qkm, .inl (cy 0, 8, .inl (fun _ => 0))), (qkt, .inl (cy 0, 8, .inl (fun _ => 0))), (qks, .inl (cy 0, 64, .inl (fun _ => 0))), (qm, .inr (5, [.ref qms, .ref qmo, .ref qmz, .ref qmR, .ref qmv, .ref qmk, .ref qmb, .ref qmt, .int 0, .ref qmr, .int 0, .ref qmB, .int 0, .ref qmO, .ref qmK, .int 0, .int 0, .int 1, .null, .null, .int 0, .int 0, .int 0, .long 0, .int 0, .ref qm_three, .int 0, .int 0, .int 0, .null, .ref qm_unread, .ref qm_tryRow, .ref qm_bestRow, .ref qm_steps, .int 0])), (qmB, .inl (cy 3, 8, .inr (.inr (.inr (.inr (fun i => if i < 8 then some (rB i) else none)))))), (rB 0, .inl (cy 0, 4, .inl (fun _ => 0))), (rB 1, .inl (cy 0, 4, .inl (fun _ => 0))), (rB 2, .inl (cy 0, 4, .inl (fun _ => 0))), (rB 3, .inl (cy 0, 4, .inl (fun _ => 0))), (rB 4, .inl (cy 0, 4, .inl (fun _ => 0))), (rB 5, .inl (cy 0, 4, .inl (fun _ => 0))), (rB 6, .inl (cy 0, 4, .inl (fun _ => 0))), (rB 7, .inl (cy 0, 4, .inl (fun _ => 0))), (qmO, .inl (cy 3, 8, .inr (.inr (.inr (.inr (fun i => if i < 8 then some (rO i) else none)))))), (rO 0, .inl (cy 0, 5, .inl (fun _ => 0))), (rO 1, .inl (cy 0, 5, .inl (fun _ => 0))), (rO 2, .inl (cy 0, 5, .inl (fun _ => 0))), (rO 3, .inl (cy 0, 5, .inl (fun _ => 0))), (rO 4, .inl (cy 0, 5, .inl (fun _ => 0))), (rO 5, .inl (cy 0, 5, .inl (fun _ => 0))), (rO 6, .inl (cy 0, 5, .inl (fun _ => 0))), (rO 7, .inl (cy 0, 5, .inl (fun _ => 0))), (qmK, .inl (cy 3, 8, .inr (.inr (.inr (.inr (fun i => if i < 8 then some (rK i) else none)))))), (rK 0, .inl (cy 0, 8, .inl (fun _ => 0))), (rK 1, .inl (cy 0, 8, .inl (fun _ => 0))), (rK 2, .inl (cy 0, 8, .inl (fun _ => 0))), (rK 3, .inl (cy 0, 8, .inl (fun _ => 0))), (rK 4, .inl (cy 0, 8, .inl (fun _ => 0))), (rK 5, .inl (cy 0, 8, .inl (fun _ => 0))), (rK 6, .inl (cy 0, 8, .inl (fun _ => 0))), (rK 7, .inl (cy 0, 8, .inl (fun _ => 0)))]) (hS : va_S A s.heap H locs) (hl : lv_has ls 4 [(3, .int 0), (2, .ref qm), (1, .ref qx), (0, .ref b)]) : W p l e room_1 s m #[Value.ref b] below meth c H locs 105 2176 (lw_Z below #[Value.ref b] s) (F0 m 1759 ls []) := by
  have hK := hN.1
  refine lv_aload_n hx hb dL_law_1759 rfl (lv_at hl 2 rfl) ?_
  refine kWi (wr := [(qm, .inr (5, [.ref qms, .ref qmo, .ref qmz, .ref qmR, .ref qmv, .ref qmk, .ref qmb, .ref qmt, .int 0, .ref qmr, .int 0, .ref qmB, .int 0, .ref qmO, .ref qmK, .int 0, .int 0, .int 1, .null, .null, .int 0, .int 0, .int 0, .long 0, .int 0, .ref qm_three, .int 0, .int 0, .int 0, .null, .ref qm_unread, .ref qm_tryRow, .ref qm_bestRow, .ref qm_steps, .int 0])), (qmB, .inl (cy 3, 8, .inr (.inr (.inr (.inr (fun i => if i < 8 then some (rB i) else none)))))), (rB 0, .inl (cy 0, 4, .inl (fun _ => 0))), (rB 1, .inl (cy 0, 4, .inl (fun _ => 0))), (rB 2, .inl (cy 0, 4, .inl (fun _ => 0))), (rB 3, .inl (cy 0, 4, .inl (fun _ => 0))), (rB 4, .inl (cy 0, 4, .inl (fun _ => 0))), (rB 5, .inl (cy 0, 4, .inl (fun _ => 0))), (rB 6, .inl (cy 0, 4, .inl (fun _ => 0))), (rB 7, .inl (cy 0, 4, .inl (fun _ => 0))), (qmO, .inl (cy 3, 8, .inr (.inr (.inr (.inr (fun i => if i < 8 then some (rO i) else none)))))), (rO 0, .inl (cy 0, 5, .inl (fun _ => 0))), (rO 1, .inl (cy 0, 5, .inl (fun _ => 0))), (rO 2, .inl (cy 0, 5, .inl (fun _ => 0))), (rO 3, .inl (cy 0, 5, .inl (fun _ => 0))), (rO 4, .inl (cy 0, 5, .inl (fun _ => 0))), (rO 5, .inl (cy 0, 5, .inl (fun _ => 0))), (rO 6, .inl (cy 0, 5, .inl (fun _ => 0))), (rO 7, .inl (cy 0, 5, .inl (fun _ => 0))), (qmK, .inl (cy 3, 8, .inr (.inr (.inr (.inr (fun i => if i < 8 then some (rK i) else none)))))), (rK 0, .inl (cy 0, 8, .inl (fun _ => 0))), (rK 1, .inl (cy 0, 8, .inl (fun _ => 0))), (rK 2, .inl (cy 0, 8, .inl (fun _ => 0))), (rK 3, .inl (cy 0, 8, .inl (fun _ => 0))), (rK 4, .inl (cy 0, 8, .inl (fun _ => 0))), (rK 5, .inl (cy 0, 8, .inl (fun _ => 0))), (rK 6, .inl (cy 0, 8, .inl (fun _ => 0))), (rK 7, .inl (cy 0, 8, .inl (fun _ => 0)))]) (rV (As := []) (rest := []) (b := qx) ⟨hx, hb, hml, hown, hts⟩ (p_X5_image l G cy (H).size qx qt qk qp qs qa qr qtw qtn qtg qta qtr qtm qtt qts qkw qkn qkg qka qkr qkm qkt qks) L_L_208 (preWV (q := (RX5, TX5, 9)) hN hP hD [0, 1, 2, 3, 4, 5, 6, 7, 8, 9, 10, 11, 12, 13, 14, 15, 16, 17, 18] rfl (by decide) 0 4 rfl rfl) rfl ⟨Nat.le_of_ble_eq_true rfl, Nat.le_of_ble_eq_true rfl⟩ hl.1 (Nat.le_of_ble_eq_true rfl) dL_law_1760 ⟨Nat.le_of_ble_eq_true rfl, Nat.le_of_ble_eq_true rfl⟩) hP hD hS hA [0, 1, 2, 3, 4, 5, 6, 7, 8, 9, 10, 11, 12, 13, 14, 15, 16, 17, 18] [19, 20, 21, 22, 23, 24, 25, 26, 27, 28, 29, 30, 31, 32, 33, 34, 35, 36, 37, 38, 39, 40, 41, 42, 43, 44, 45, 46] rfl rfl (by decide) (by decide) (fun r_1 u_3 H locs h_2 hP hD hS => ?_)
  obtain ⟨rfl, h_2⟩ := h_2
  have hP : va_P G CL [(qm, .inr (5, [.ref qms, .ref qmo, .ref qmz, .ref qmR, .ref qmv, .ref qmk, .ref qmb, .ref qmt, .int 0, .ref qmr, .int 0, .ref qmB, .int 0, .ref qmO, .ref qmK, .int 0, .int 0, .int 1, .null, .null, .int 0, .int 0, .int 0, .long 0, .int 0, .ref qm_three, .int 0, .int 0, .int 0, .null, .ref qm_unread, .ref qm_tryRow, .ref qm_bestRow, .ref qm_steps, .int 0])), (qmB, .inl (cy 3, 8, .inr (.inr (.inr (.inr (fun i => if i < 8 then some (rB i) else none)))))), (rB 0, .inl (cy 0, 4, .inl (fun _ => 0))), (rB 1, .inl (cy 0, 4, .inl (fun _ => 0))), (rB 2, .inl (cy 0, 4, .inl (fun _ => 0))), (rB 3, .inl (cy 0, 4, .inl (fun _ => 0))), (rB 4, .inl (cy 0, 4, .inl (fun _ => 0))), (rB 5, .inl (cy 0, 4, .inl (fun _ => 0))), (rB 6, .inl (cy 0, 4, .inl (fun _ => 0))), (rB 7, .inl (cy 0, 4, .inl (fun _ => 0))), (qmO, .inl (cy 3, 8, .inr (.inr (.inr (.inr (fun i => if i < 8 then some (rO i) else none)))))), (rO 0, .inl (cy 0, 5, .inl (fun _ => 0))), (rO 1, .inl (cy 0, 5, .inl (fun _ => 0))), (rO 2, .inl (cy 0, 5, .inl (fun _ => 0))), (rO 3, .inl (cy 0, 5, .inl (fun _ => 0))), (rO 4, .inl (cy 0, 5, .inl (fun _ => 0))), (rO 5, .inl (cy 0, 5, .inl (fun _ => 0))), (rO 6, .inl (cy 0, 5, .inl (fun _ => 0))), (rO 7, .inl (cy 0, 5, .inl (fun _ => 0))), (qmK, .inl (cy 3, 8, .inr (.inr (.inr (.inr (fun i => if i < 8 then some (rK i) else none)))))), (rK 0, .inl (cy 0, 8, .inl (fun _ => 0))), (rK 1, .inl (cy 0, 8, .inl (fun _ => 0))), (rK 2, .inl (cy 0, 8, .inl (fun _ => 0))), (rK 3, .inl (cy 0, 8, .inl (fun _ => 0))), (rK 4, .inl (cy 0, 8, .inl (fun _ => 0))), (rK 5, .inl (cy 0, 8, .inl (fun _ => 0))), (rK 6, .inl (cy 0, 8, .inl (fun _ => 0))), (rK 7, .inl (cy 0, 8, .inl (fun _ => 0)))] H := hP
  have hD : va_D A [(qm, .inr (5, [.ref qms, .ref qmo, .ref qmz, .ref qmR, .ref qmv, .ref qmk, .ref qmb, .ref qmt, .int 0, .ref qmr, .int 0, .ref qmB, .int 0, .ref qmO, .ref qmK, .int 0, .int 0, .int 1, .null, .null, .int 0, .int 0, .int 0, .long 0, .int 0, .ref qm_three, .int 0, .int 0, .int 0, .null, .ref qm_unread, .ref qm_tryRow, .ref qm_bestRow, .ref qm_steps, .int 0])), (qmB, .inl (cy 3, 8, .inr (.inr (.inr (.inr (fun i => if i < 8 then some (rB i) else none)))))), (rB 0, .inl (cy 0, 4, .inl (fun _ => 0))), (rB 1, .inl (cy 0, 4, .inl (fun _ => 0))), (rB 2, .inl (cy 0, 4, .inl (fun _ => 0))), (rB 3, .inl (cy 0, 4, .inl (fun _ => 0))), (rB 4, .inl (cy 0, 4, .inl (fun _ => 0))), (rB 5, .inl (cy 0, 4, .inl (fun _ => 0))), (rB 6, .inl (cy 0, 4, .inl (fun _ => 0))), (rB 7, .inl (cy 0, 4, .inl (fun _ => 0))), (qmO, .inl (cy 3, 8, .inr (.inr (.inr (.inr (fun i => if i < 8 then some (rO i) else none)))))), (rO 0, .inl (cy 0, 5, .inl (fun _ => 0))), (rO 1, .inl (cy 0, 5, .inl (fun _ => 0))), (rO 2, .inl (cy 0, 5, .inl (fun _ => 0))), (rO 3, .inl (cy 0, 5, .inl (fun _ => 0))), (rO 4, .inl (cy 0, 5, .inl (fun _ => 0))), (rO 5, .inl (cy 0, 5, .inl (fun _ => 0))), (rO 6, .inl (cy 0, 5, .inl (fun _ => 0))), (rO 7, .inl (cy 0, 5, .inl (fun _ => 0))), (qmK, .inl (cy 3, 8, .inr (.inr (.inr (.inr (fun i => if i < 8 then some (rK i) else none)))))), (rK 0, .inl (cy 0, 8, .inl (fun _ => 0))), (rK 1, .inl (cy 0, 8, .inl (fun _ => 0))), (rK 2, .inl (cy 0, 8, .inl (fun _ => 0))), (rK 3, .inl (cy 0, 8, .inl (fun _ => 0))), (rK 4, .inl (cy 0, 8, .inl (fun _ => 0))), (rK 5, .inl (cy 0, 8, .inl (fun _ => 0))), (rK 6, .inl (cy 0, 8, .inl (fun _ => 0))), (rK 7, .inl (cy 0, 8, .inl (fun _ => 0)))] := hD
  subst h_2
  refine lv_aload_n hx hb dL_law_1763 rfl (lv_at hl 1 rfl) ?_
  refine kWi (wr := []) (rV (As := []) (rest := [.int 1]) (b := qm) ⟨hx, hb, hml, hown, hts⟩ (p_X6_image l G cy (H).size qm qms qmo qmz qmR qmv qmk qmb qmt qmr qmB qmO qmK qm_three qm_unread qm_tryRow qm_bestRow qm_steps rB rO rK) L_L_211 (preWV (q := (RX6, TX6, 35)) hN hP hD [0, 1, 2, 3, 4, 5, 6, 7, 8, 9, 10, 11, 12, 13, 14, 15, 16, 17, 18, 19, 20, 21, 22, 23, 24, 25, 26, 27] rfl (by decide) 0 5 rfl rfl) rfl ⟨Nat.le_of_ble_eq_true rfl, Nat.le_of_ble_eq_true rfl⟩ hl.1 (Nat.le_of_ble_eq_true rfl) dL_law_1764 ⟨Nat.le_of_ble_eq_true rfl, Nat.le_of_ble_eq_true rfl⟩) hP hD hS hA [0, 1, 2, 3, 4, 5, 6, 7, 8, 9, 10, 11, 12, 13, 14, 15, 16, 17, 18, 19, 20, 21, 22, 23, 24, 25, 26, 27] [] rfl rfl (by decide) (by decide) (fun r_4 u_6 H locs h_5 hP hD hS => ?_)
  obtain ⟨rfl, h_5⟩ := h_5
  have hP : va_P G CL [] H := hP
  have hD : va_D A [] := hD
  refine W.widen (k := 155) (n := 3064) (Nat.le_of_ble_eq_true rfl) (Nat.le_of_ble_eq_true rfl) ?_
  subst h_5
  refine lv_icmp_eq (tgt := 1808) hx hb dL_law_1767 (by decide) (fun _ => ?_) (fun h9 => absurd (by decide) h9)
  exact law_tail hx hb hr hml hX hbl hlocks hAn hbA hS (lv_sub hl [0, 3] rfl) (Nat.le_of_ble_eq_true rfl) (Nat.le_of_ble_eq_true rfl)
set_option maxHeartbeats 4000000 in
set_option maxRecDepth 100000 in
theorem law_47 {p : Program} {l : Launch} {e : Env} {s : State} {m : MethodId} {below : List Frame} {meth : Method} {c : Code} {b : Nat} {xs : Nat → Int32} {A : Nat → Prop} {G : va_G} {cy : Nat → ClassId} {H : Heap} {locs : List Loc} {ls : Array Slot} (qx : Nat) (qt : Nat) (qk : Nat) (qp : Nat) (qs : Nat) (qa : Nat) (qr : Nat) (qm : Nat) (qms : Nat) (qmo : Nat) (qmz : Nat) (qmR : Nat) (qmv : Nat) (qmk : Nat) (qmb : Nat) (qmt : Nat) (qmr : Nat) (qmB : Nat) (qmO : Nat) (qmK : Nat) (qm_three : Nat) (qm_unread : Nat) (qm_tryRow : Nat) (qm_bestRow : Nat) (qm_steps : Nat) (hx : p.tables.exec = Jvm.exec) (hb : c.code = code) (hr : meth.sig.returnType = ret) (hml : c.maxLocals = 4) (hown : s.vm.findClass RL = some m.cls) (hts : ∀ w ∈ BIG, w.before #[Value.ref b] s = true) (hX : va_X b 6 xs s s.heap) (hbl : b < s.heap.size) (hlocks : meth.locks = false) (hN : KN G cy s) (hA : ∀ q : Nat, s.heap.size ≤ q → A q) (hAn : ∀ q : Nat, A q → s.heap.size ≤ q) (hbA : ¬ A b) (hP : va_P G CL [(qx, .inr (4, [.ref qt, .ref qk, .ref qp, .ref qs, .ref qa, .ref qr, .int 0, .int 0, .int 0])), (qr, .inl (cy 0, 5, .inl (fun _ => 0))), (qm, .inr (5, [.ref qms, .ref qmo, .ref qmz, .ref qmR, .ref qmv, .ref qmk, .ref qmb, .ref qmt, .int 0, .ref qmr, .int 0, .ref qmB, .int 0, .ref qmO, .ref qmK, .int 0, .int 0, .int 1, .null, .null, .int 0, .int 0, .int 0, .long 0, .int 0, .ref qm_three, .int 0, .int 0, .int 0, .null, .ref qm_unread, .ref qm_tryRow, .ref qm_bestRow, .ref qm_steps, .int 0])), (qmr, .inl (cy 0, 8, .inl (fun _ => 0)))] H) (hD : va_D A [(qx, .inr (4, [.ref qt, .ref qk, .ref qp, .ref qs, .ref qa, .ref qr, .int 0, .int 0, .int 0])), (qr, .inl (cy 0, 5, .inl (fun _ => 0))), (qm, .inr (5, [.ref qms, .ref qmo, .ref qmz, .ref qmR, .ref qmv, .ref qmk, .ref qmb, .ref qmt, .int 0, .ref qmr, .int 0, .ref qmB, .int 0, .ref qmO, .ref qmK, .int 0, .int 0, .int 1, .null, .null, .int 0, .int 0, .int 0, .long 0, .int 0, .ref qm_three, .int 0, .int 0, .int 0, .null, .ref qm_unread, .ref qm_tryRow, .ref qm_bestRow, .ref qm_steps, .int 0])), (qmr, .inl (cy 0, 8, .inl (fun _ => 0)))]) (hS : va_S A s.heap H locs) (hl : lv_has ls 4 [(3, .int 0), (2, .ref qm), (1, .ref qx), (0, .ref b)]) : W p l e room_1 s m #[Value.ref b] below meth c H locs 105 2176 (lw_Z below #[Value.ref b] s) (F0 m 1772 ls []) := by
  have hK := hN.1
  refine lv_aload_n hx hb dL_law_1772 rfl (lv_at hl 2 rfl) ?_
  refine kWi (wr := [(qm, .inr (5, [.ref qms, .ref qmo, .ref qmz, .ref qmR, .ref qmv, .ref qmk, .ref qmb, .ref qmt, .int 0, .ref qmr, .int 0, .ref qmB, .int 0, .ref qmO, .ref qmK, .int 0, .int 0, .int 1, .null, .null, .int 0, .int 0, .int 0, .long 0, .int 0, .ref qm_three, .int 0, .int 0, .int 0, .null, .ref qm_unread, .ref qm_tryRow, .ref qm_bestRow, .ref qm_steps, .int 0])), (qmr, .inl (cy 0, 8, .inl (fun _ => 0)))]) (rV (As := []) (rest := []) (b := qx) ⟨hx, hb, hml, hown, hts⟩ (p_X5_back l G cy (H).size qx qt qk qp qs qa qr) L_L_212 (preWV (q := (RX5, TX5, 9)) hN hP hD [0, 1] rfl (by decide) 0 4 rfl rfl) rfl ⟨Nat.le_of_ble_eq_true rfl, Nat.le_of_ble_eq_true rfl⟩ hl.1 (Nat.le_of_ble_eq_true rfl) dL_law_1773 ⟨Nat.le_of_ble_eq_true rfl, Nat.le_of_ble_eq_true rfl⟩) hP hD hS hA [0, 1] [2, 3] rfl rfl (by decide) (by decide) (fun r_1 u_3 H locs h_2 hP hD hS => ?_)
  obtain ⟨rfl, h_2⟩ := h_2
  have hP : va_P G CL [(qm, .inr (5, [.ref qms, .ref qmo, .ref qmz, .ref qmR, .ref qmv, .ref qmk, .ref qmb, .ref qmt, .int 0, .ref qmr, .int 0, .ref qmB, .int 0, .ref qmO, .ref qmK, .int 0, .int 0, .int 1, .null, .null, .int 0, .int 0, .int 0, .long 0, .int 0, .ref qm_three, .int 0, .int 0, .int 0, .null, .ref qm_unread, .ref qm_tryRow, .ref qm_bestRow, .ref qm_steps, .int 0])), (qmr, .inl (cy 0, 8, .inl (fun _ => 0)))] H := hP
  have hD : va_D A [(qm, .inr (5, [.ref qms, .ref qmo, .ref qmz, .ref qmR, .ref qmv, .ref qmk, .ref qmb, .ref qmt, .int 0, .ref qmr, .int 0, .ref qmB, .int 0, .ref qmO, .ref qmK, .int 0, .int 0, .int 1, .null, .null, .int 0, .int 0, .int 0, .long 0, .int 0, .ref qm_three, .int 0, .int 0, .int 0, .null, .ref qm_unread, .ref qm_tryRow, .ref qm_bestRow, .ref qm_steps, .int 0])), (qmr, .inl (cy 0, 8, .inl (fun _ => 0)))] := hD
  subst h_2
  refine lv_aload_n hx hb dL_law_1776 rfl (lv_at hl 1 rfl) ?_
  refine kWi (wr := []) (rV (As := []) (rest := [.int (-5)]) (b := qm) ⟨hx, hb, hml, hown, hts⟩ (p_X6_back l G cy (H).size qm qms qmo qmz qmR qmv qmk qmb qmt qmr qmB qmO qmK qm_three qm_unread qm_tryRow qm_bestRow qm_steps) L_L_215 (preWV (q := (RX6, TX6, 35)) hN hP hD [0, 1] rfl (by decide) 0 5 rfl rfl) rfl ⟨Nat.le_of_ble_eq_true rfl, Nat.le_of_ble_eq_true rfl⟩ hl.1 (Nat.le_of_ble_eq_true rfl) dL_law_1777 ⟨Nat.le_of_ble_eq_true rfl, Nat.le_of_ble_eq_true rfl⟩) hP hD hS hA [0, 1] [] rfl rfl (by decide) (by decide) (fun r_4 u_6 H locs h_5 hP hD hS => ?_)
  obtain ⟨rfl, h_5⟩ := h_5
  have hP : va_P G CL [] H := hP
  have hD : va_D A [] := hD
  subst h_5
  refine lv_icmp_eq (tgt := 1808) hx hb dL_law_1780 (by decide) (fun _ => ?_) (fun h9 => absurd (by decide) h9)
  exact law_tail hx hb hr hml hX hbl hlocks hAn hbA hS (lv_sub hl [0, 3] rfl) (Nat.le_of_ble_eq_true rfl) (Nat.le_of_ble_eq_true rfl)
set_option maxHeartbeats 4000000 in
set_option maxRecDepth 100000 in
theorem law_48 {p : Program} {l : Launch} {e : Env} {s : State} {m : MethodId} {below : List Frame} {meth : Method} {c : Code} {b : Nat} {xs : Nat → Int32} {A : Nat → Prop} {G : va_G} {cy : Nat → ClassId} {H : Heap} {locs : List Loc} {ls : Array Slot} (qx : Nat) (qt : Nat) (qk : Nat) (qp : Nat) (qs : Nat) (qa : Nat) (qr : Nat) (qtw : Nat) (qtn : Nat) (qtg : Nat) (qta : Nat) (qtr : Nat) (qtm : Nat) (qtt : Nat) (qts : Nat) (qab : Nat) (qd : Nat) (qsh : Nat) (qss : Nat) (qsa : Nat) (qse : Nat) (fH : Nat → Int32) (qm : Nat) (qms : Nat) (qmo : Nat) (qmz : Nat) (qmR : Nat) (qmv : Nat) (qmk : Nat) (qmb : Nat) (qmt : Nat) (qmr : Nat) (qmB : Nat) (qmO : Nat) (qmK : Nat) (qm_three : Nat) (qm_unread : Nat) (qm_tryRow : Nat) (qm_bestRow : Nat) (qm_steps : Nat) (hx : p.tables.exec = Jvm.exec) (hb : c.code = code) (hr : meth.sig.returnType = ret) (hml : c.maxLocals = 4) (hown : s.vm.findClass RL = some m.cls) (hts : ∀ w ∈ BIG, w.before #[Value.ref b] s = true) (hX : va_X b 6 xs s s.heap) (hbl : b < s.heap.size) (hlocks : meth.locks = false) (hN : KN G cy s) (hA : ∀ q : Nat, s.heap.size ≤ q → A q) (hAn : ∀ q : Nat, A q → s.heap.size ≤ q) (hbA : ¬ A b) (hP : va_P G CL [(qx, .inr (4, [.ref qt, .ref qk, .ref qp, .ref qs, .ref qa, .ref qr, .int 0, .int 0, .int 0])), (qr, .inl (cy 0, 5, .inl (fun _ => 0))), (qt, .inr (3, [.int 0, .int 0, .int 0, .int 0, .int 1, .ref qtw, .ref qtn, .ref qtg, .ref qta, .ref qtr, .ref qtm, .ref qtt, .ref qts])), (qa, .inr (2, [.ref qab, .int 0, .int 0, .int 0, .int 0, .int 0, .ref qd])), (qs, .inr (1, [.ref qsh, .ref qss, .ref qsa, .ref qse])), (qsh, .inl (cy 0, 8, .inl fH)), (qm, .inr (5, [.ref qms, .ref qmo, .ref qmz, .ref qmR, .ref qmv, .ref qmk, .ref qmb, .ref qmt, .int 0, .ref qmr, .int 0, .ref qmB, .int 0, .ref qmO, .ref qmK, .int 0, .int 0, .int 1, .null, .null, .int 0, .int 0, .int 0, .long 0, .int 0, .ref qm_three, .int 0, .int 0, .int 0, .null, .ref qm_unread, .ref qm_tryRow, .ref qm_bestRow, .ref qm_steps, .int 0])), (qms, .inl (cy 0, 8, .inl (fun _ => 0))), (qmr, .inl (cy 0, 8, .inl (fun _ => 0)))] H) (hD : va_D A [(qx, .inr (4, [.ref qt, .ref qk, .ref qp, .ref qs, .ref qa, .ref qr, .int 0, .int 0, .int 0])), (qr, .inl (cy 0, 5, .inl (fun _ => 0))), (qt, .inr (3, [.int 0, .int 0, .int 0, .int 0, .int 1, .ref qtw, .ref qtn, .ref qtg, .ref qta, .ref qtr, .ref qtm, .ref qtt, .ref qts])), (qa, .inr (2, [.ref qab, .int 0, .int 0, .int 0, .int 0, .int 0, .ref qd])), (qs, .inr (1, [.ref qsh, .ref qss, .ref qsa, .ref qse])), (qsh, .inl (cy 0, 8, .inl fH)), (qm, .inr (5, [.ref qms, .ref qmo, .ref qmz, .ref qmR, .ref qmv, .ref qmk, .ref qmb, .ref qmt, .int 0, .ref qmr, .int 0, .ref qmB, .int 0, .ref qmO, .ref qmK, .int 0, .int 0, .int 1, .null, .null, .int 0, .int 0, .int 0, .long 0, .int 0, .ref qm_three, .int 0, .int 0, .int 0, .null, .ref qm_unread, .ref qm_tryRow, .ref qm_bestRow, .ref qm_steps, .int 0])), (qms, .inl (cy 0, 8, .inl (fun _ => 0))), (qmr, .inl (cy 0, 8, .inl (fun _ => 0)))]) (hS : va_S A s.heap H locs) (hl : lv_has ls 4 [(3, .int 0), (2, .ref qm), (1, .ref qx), (0, .ref b)]) (hH : ∀ i, i < 8 → fH i = -1) : W p l e room_1 s m #[Value.ref b] below meth c H locs 105 2176 (lw_Z below #[Value.ref b] s) (F0 m 1785 ls []) := by
  have hK := hN.1
  refine lv_aload_n hx hb dL_law_1785 rfl (lv_at hl 2 rfl) ?_
  refine lv_aload_n hx hb dL_law_1786 rfl (lv_at hl 3 rfl) ?_
  refine lv_iload_n hx hb dL_law_1787 rfl (lv_at hl 0 rfl) ?_
  refine lv_iconst (v := 1) hx hb dL_law_1788 (by decide) ?_
  refine lv_iadd hx hb dL_law_1789 ?_
  refine lv_seti (v := 1) (by decide) ?_
  refine va_sld hx hb hX hbl hbA hS (in_c rfl) dL_law_1790 ?_
  refine lv_seti (v := xs 1) (congrArg xs (by decide)) ?_
  refine kWi (wr := [(qm, .inr (5, [.ref qms, .ref qmo, .ref qmz, .ref qmR, .ref qmv, .ref qmk, .ref qmb, .ref qmt, .int 0, .ref qmr, .int 0, .ref qmB, .int 0, .ref qmO, .ref qmK, .int 0, .int 0, .int 1, .null, .null, .int 0, .int 0, .int 0, .long 0, .int 0, .ref qm_three, .int 0, .int 0, .int 0, .null, .ref qm_unread, .ref qm_tryRow, .ref qm_bestRow, .ref qm_steps, .int 0])), (qms, .inl (cy 0, 8, .inl (fun _ => 0))), (qmr, .inl (cy 0, 8, .inl (fun _ => 0)))]) (rV (As := [.int (xs 1)]) (rest := []) (b := qx) ⟨hx, hb, hml, hown, hts⟩ (p_X5_status l G cy (H).size qx qt qk qp qs qa qr qtw qtn qtg qta qtr qtm qtt qts qab qd qsh qss qsa qse fH (xs 1) hH) L_L_216 (preWV (q := (RX5, TX5, 9)) hN hP hD [0, 1, 2, 3, 4, 5] rfl (by decide) 0 4 rfl rfl) rfl ⟨Nat.le_of_ble_eq_true rfl, Nat.le_of_ble_eq_true rfl⟩ hl.1 (Nat.le_of_ble_eq_true rfl) dL_law_1791 ⟨Nat.le_of_ble_eq_true rfl, Nat.le_of_ble_eq_true rfl⟩) hP hD hS hA [0, 1, 2, 3, 4, 5] [6, 7, 8] rfl rfl (by decide) (by decide) (fun r_1 u_3 H locs h_2 hP hD hS => ?_)
  obtain ⟨rfl, h_2⟩ := h_2
  have hP : va_P G CL [(qm, .inr (5, [.ref qms, .ref qmo, .ref qmz, .ref qmR, .ref qmv, .ref qmk, .ref qmb, .ref qmt, .int 0, .ref qmr, .int 0, .ref qmB, .int 0, .ref qmO, .ref qmK, .int 0, .int 0, .int 1, .null, .null, .int 0, .int 0, .int 0, .long 0, .int 0, .ref qm_three, .int 0, .int 0, .int 0, .null, .ref qm_unread, .ref qm_tryRow, .ref qm_bestRow, .ref qm_steps, .int 0])), (qms, .inl (cy 0, 8, .inl (fun _ => 0))), (qmr, .inl (cy 0, 8, .inl (fun _ => 0)))] H := hP
  have hD : va_D A [(qm, .inr (5, [.ref qms, .ref qmo, .ref qmz, .ref qmR, .ref qmv, .ref qmk, .ref qmb, .ref qmt, .int 0, .ref qmr, .int 0, .ref qmB, .int 0, .ref qmO, .ref qmK, .int 0, .int 0, .int 1, .null, .null, .int 0, .int 0, .int 0, .long 0, .int 0, .ref qm_three, .int 0, .int 0, .int 0, .null, .ref qm_unread, .ref qm_tryRow, .ref qm_bestRow, .ref qm_steps, .int 0])), (qms, .inl (cy 0, 8, .inl (fun _ => 0))), (qmr, .inl (cy 0, 8, .inl (fun _ => 0)))] := hD
  subst h_2
  refine lv_aload_n hx hb dL_law_1794 rfl (lv_at hl 1 rfl) ?_
  refine lv_aload_n hx hb dL_law_1795 rfl (lv_at hl 3 rfl) ?_
  refine lv_iload_n hx hb dL_law_1796 rfl (lv_at hl 0 rfl) ?_
  refine lv_iconst (v := 1) hx hb dL_law_1797 (by decide) ?_
  refine lv_iadd hx hb dL_law_1798 ?_
  refine lv_seti (v := 1) (by decide) ?_
  refine va_sld hx hb hX hbl hbA hS (in_c rfl) dL_law_1799 ?_
  refine lv_seti (v := xs 1) (congrArg xs (by decide)) ?_
  refine kWi (wr := []) (rV (As := [.int (xs 1)]) (rest := [.int (sp_status (xs 1))]) (b := qm) ⟨hx, hb, hml, hown, hts⟩ (p_X6_status l G cy (H).size qm qms qmo qmz qmR qmv qmk qmb qmt qmr qmB qmO qmK qm_three qm_unread qm_tryRow qm_bestRow qm_steps (xs 1)) L_L_219 (preWV (q := (RX6, TX6, 35)) hN hP hD [0, 1, 2] rfl (by decide) 0 5 rfl rfl) rfl ⟨Nat.le_of_ble_eq_true rfl, Nat.le_of_ble_eq_true rfl⟩ hl.1 (Nat.le_of_ble_eq_true rfl) dL_law_1800 ⟨Nat.le_of_ble_eq_true rfl, Nat.le_of_ble_eq_true rfl⟩) hP hD hS hA [0, 1, 2] [] rfl rfl (by decide) (by decide) (fun r_4 u_6 H locs h_5 hP hD hS => ?_)
  obtain ⟨rfl, h_5⟩ := h_5
  have hP : va_P G CL [] H := hP
  have hD : va_D A [] := hD
  subst h_5
  refine lv_icmp_eq (tgt := 1808) hx hb dL_law_1803 (by decide) (fun _ => ?_) (fun h9 => absurd rfl h9)
  exact law_tail hx hb hr hml hX hbl hlocks hAn hbA hS (lv_sub hl [0, 3] rfl) (Nat.le_of_ble_eq_true rfl) (Nat.le_of_ble_eq_true rfl)

section LWD
variable {p : Program} {l : Launch} {e : Env} {s : State} {m : MethodId} {below : List Frame} {meth : Method} {c : Code} {bq L : Nat} {xs : Nat → Int32} {X1 X2 : WX} {G1 : Geo} {M1 M2 : Mem} {H : Heap} {locs : List Loc} {cells slots : Nat} {la : Array Slot} {pc i : Nat} {st : List Value} {QF : State → Prop} {σ : St}
theorem law_c42 (C0 : lw_At p s m meth c bq L xs) (hS : LSt s X1 X2 G1 M1 M2 H locs) (hl : LH la bq i X1 X2) (hC : SC σ G1 M1) (hM : SM σ M2) (hI : SI σ) (hi : i + 6 ≤ L) (hL : L ≤ 3072) (hc : cells + 6 ≤ 600000) (hs : slots + 1509 ≤ 7302250) (hg : G1.1 + 6 < 1000000) (KK : LK p l e s m below meth c bq X1 X2 G1.1 cells slots la QF) : W p l e room_1 s m #[Value.ref bq] below meth c H locs cells slots QF (F0 m 1516 la []) := by
  have hx := C0.1
  have hb := C0.2.1
  have hsh : Sh G1 0 (0, 8) := hC.1.s (by decide) rfl
  refine lv_aload_n hx hb d_La_1516 rfl (lv_at hl 2 rfl) ?_
  refine L_arg C0 hS hl 1 (by omega) hL d_La_1517 d_La_1518 d_La_1519 rfl d_La_1520 d_La_1521 ?_
  refine L_cls C0 hS (As := [.int (xs (i + 1))]) (rest := []) (b' := 0) (bs' := 0) (cT_game hC hI (xs (i + 1))) d_La_1522 ml_La_192 cb_TP_game cv_TP_game rfl hsh rfl ⟨by decide, by decide⟩ rfl (Nat.le_of_ble_eq_true rfl) rfl (Nat.le_of_ble_eq_true rfl) hl.1 ⟨by omega, by omega⟩ (fun v G' M' H' locs' hq hS2 => ?_)
  obtain ⟨rfl, r, rfl, rfl, hC2⟩ := hq
  refine lv_aload_n hx hb d_La_1525 rfl (lv_at hl 1 rfl) ?_
  refine L_arg C0 hS2 hl 1 (by omega) hL d_La_1526 d_La_1527 d_La_1528 rfl d_La_1529 d_La_1530 ?_
  refine L_mod C0 hS2 hM.R (As := [.int (xs (i + 1))]) (rest := [.int (ans_game σ.cr ((xs (i + 1))))]) (mT_game hM hI (xs (i + 1))) (qI (fun _ _ z => z.2.R)) d_La_1531 ml_La_195 cb_TM_game cv_TM_game rfl rfl ⟨by decide, by decide⟩ rfl (Nat.le_of_ble_eq_true rfl) rfl rfl (Nat.le_of_ble_eq_true rfl) hl.1 ⟨by omega, by omega⟩ (fun v M' H' locs' hq hS3 => ?_)
  obtain ⟨-, r, rfl, rfl, hM2⟩ := hq
  refine lv_icmp_eq hx hb d_La_1534 (tgt := 2005) rfl (fun _ => ?_) (fun z => absurd rfl z)
  exact KK _ _ _ _ _ _ _ _ (by omega) (by omega) (by omega) hS3 hC2 hM2 (hI)
theorem law_c43 (C0 : lw_At p s m meth c bq L xs) (hS : LSt s X1 X2 G1 M1 M2 H locs) (hl : LH la bq i X1 X2) (hC : SC σ G1 M1) (hM : SM σ M2) (hI : SI σ) (hi : i + 6 ≤ L) (hL : L ≤ 3072) (hc : cells + 6 ≤ 600000) (hs : slots + 1509 ≤ 7302250) (hg : G1.1 + 6 < 1000000) (KK : LK p l e s m below meth c bq X1 X2 G1.1 cells slots la QF) : W p l e room_1 s m #[Value.ref bq] below meth c H locs cells slots QF (F0 m 1539 la []) := by
  have hx := C0.1
  have hb := C0.2.1
  have hsh : Sh G1 0 (0, 8) := hC.1.s (by decide) rfl
  refine lv_aload_n hx hb d_La_1539 rfl (lv_at hl 2 rfl) ?_
  refine L_arg C0 hS hl 1 (by omega) hL d_La_1540 d_La_1541 d_La_1542 rfl d_La_1543 d_La_1544 ?_
  refine L_cls C0 hS (As := [.int (xs (i + 1))]) (rest := []) (b' := 0) (bs' := 0) (cT_choice hC hI (xs (i + 1))) d_La_1545 ml_La_196 cb_TP_choice cv_TP_choice rfl hsh rfl ⟨by decide, by decide⟩ rfl (Nat.le_of_ble_eq_true rfl) rfl (Nat.le_of_ble_eq_true rfl) hl.1 ⟨by omega, by omega⟩ (fun v G' M' H' locs' hq hS2 => ?_)
  obtain ⟨rfl, r, rfl, rfl, hC2⟩ := hq
  refine lv_aload_n hx hb d_La_1548 rfl (lv_at hl 1 rfl) ?_
  refine L_arg C0 hS2 hl 1 (by omega) hL d_La_1549 d_La_1550 d_La_1551 rfl d_La_1552 d_La_1553 ?_
  refine L_mod C0 hS2 hM.R (As := [.int (xs (i + 1))]) (rest := [.int (ans_choice σ.cr ((xs (i + 1))))]) (mT_choice hM hI (xs (i + 1))) (qI (fun _ _ z => z.2.R)) d_La_1554 ml_La_199 cb_TM_choice cv_TM_choice rfl rfl ⟨by decide, by decide⟩ rfl (Nat.le_of_ble_eq_true rfl) rfl rfl (Nat.le_of_ble_eq_true rfl) hl.1 ⟨by omega, by omega⟩ (fun v M' H' locs' hq hS3 => ?_)
  obtain ⟨-, r, rfl, rfl, hM2⟩ := hq
  refine lv_icmp_eq hx hb d_La_1557 (tgt := 2005) rfl (fun _ => ?_) (fun z => absurd rfl z)
  exact KK _ _ _ _ _ _ _ _ (by omega) (by omega) (by omega) hS3 hC2 hM2 (hI)
theorem law_c44 (C0 : lw_At p s m meth c bq L xs) (hS : LSt s X1 X2 G1 M1 M2 H locs) (hl : LH la bq i X1 X2) (hC : SC σ G1 M1) (hM : SM σ M2) (hI : SI σ) (hi : i + 6 ≤ L) (hL : L ≤ 3072) (hc : cells + 6 ≤ 600000) (hs : slots + 1509 ≤ 7302250) (hg : G1.1 + 6 < 1000000) (KK : LK p l e s m below meth c bq X1 X2 G1.1 cells slots la QF) : W p l e room_1 s m #[Value.ref bq] below meth c H locs cells slots QF (F0 m 1562 la []) := by
  have hx := C0.1
  have hb := C0.2.1
  have hsh : Sh G1 0 (0, 8) := hC.1.s (by decide) rfl
  refine lv_aload_n hx hb d_La_1562 rfl (lv_at hl 2 rfl) ?_
  refine L_arg C0 hS hl 1 (by omega) hL d_La_1563 d_La_1564 d_La_1565 rfl d_La_1566 d_La_1567 ?_
  refine L_arg C0 hS hl 2 (by omega) hL d_La_1568 d_La_1569 d_La_1570 rfl d_La_1571 d_La_1572 ?_
  refine L_cls C0 hS (As := [.int (xs (i + 1)), .int (xs (i + 2))]) (rest := []) (b' := 0) (bs' := 0) (cT_party hC hI (xs (i + 1)) (xs (i + 2))) d_La_1573 ml_La_200 cb_TP_party cv_TP_party rfl hsh rfl ⟨by decide, by decide⟩ rfl (Nat.le_of_ble_eq_true rfl) rfl (Nat.le_of_ble_eq_true rfl) hl.1 ⟨by omega, by omega⟩ (fun v G' M' H' locs' hq hS2 => ?_)
  obtain ⟨rfl, r, rfl, rfl, hC2⟩ := hq
  refine lv_aload_n hx hb d_La_1576 rfl (lv_at hl 1 rfl) ?_
  refine L_arg C0 hS2 hl 1 (by omega) hL d_La_1577 d_La_1578 d_La_1579 rfl d_La_1580 d_La_1581 ?_
  refine L_arg C0 hS2 hl 2 (by omega) hL d_La_1582 d_La_1583 d_La_1584 rfl d_La_1585 d_La_1586 ?_
  refine L_mod C0 hS2 hM.R (As := [.int (xs (i + 1)), .int (xs (i + 2))]) (rest := [.int (ans_party σ.cr ((xs (i + 1))) ((xs (i + 2))))]) (mT_party hM hI (xs (i + 1)) (xs (i + 2))) (qI (fun _ _ z => z.2.R)) d_La_1587 ml_La_203 cb_TM_party cv_TM_party rfl rfl ⟨by decide, by decide⟩ rfl (Nat.le_of_ble_eq_true rfl) rfl rfl (Nat.le_of_ble_eq_true rfl) hl.1 ⟨by omega, by omega⟩ (fun v M' H' locs' hq hS3 => ?_)
  obtain ⟨-, r, rfl, rfl, hM2⟩ := hq
  refine lv_icmp_eq hx hb d_La_1590 (tgt := 2005) rfl (fun _ => ?_) (fun z => absurd rfl z)
  exact KK _ _ _ _ _ _ _ _ (by omega) (by omega) (by omega) hS3 hC2 hM2 (iT_party hI (xs (i + 1)) (xs (i + 2)))
theorem law_c45 (C0 : lw_At p s m meth c bq L xs) (hS : LSt s X1 X2 G1 M1 M2 H locs) (hl : LH la bq i X1 X2) (hC : SC σ G1 M1) (hM : SM σ M2) (hI : SI σ) (hi : i + 6 ≤ L) (hL : L ≤ 3072) (hc : cells + 6 ≤ 600000) (hs : slots + 1509 ≤ 7302250) (hg : G1.1 + 6 < 1000000) (KK : LK p l e s m below meth c bq X1 X2 G1.1 cells slots la QF) : W p l e room_1 s m #[Value.ref bq] below meth c H locs cells slots QF (F0 m 1595 la []) := by
  have hx := C0.1
  have hb := C0.2.1
  have hsh : Sh G1 0 (0, 8) := hC.1.s (by decide) rfl
  refine lv_aload_n hx hb d_La_1595 rfl (lv_at hl 2 rfl) ?_
  refine L_arg C0 hS hl 1 (by omega) hL d_La_1596 d_La_1597 d_La_1598 rfl d_La_1599 d_La_1600 ?_
  refine L_cls C0 hS (As := [.int (xs (i + 1))]) (rest := []) (b' := 0) (bs' := 0) (cT_lives hC hI (xs (i + 1))) d_La_1601 ml_La_204 cb_TP_lives cv_TP_lives rfl hsh rfl ⟨by decide, by decide⟩ rfl (Nat.le_of_ble_eq_true rfl) rfl (Nat.le_of_ble_eq_true rfl) hl.1 ⟨by omega, by omega⟩ (fun v G' M' H' locs' hq hS2 => ?_)
  obtain ⟨rfl, r, rfl, rfl, hC2⟩ := hq
  refine lv_aload_n hx hb d_La_1604 rfl (lv_at hl 1 rfl) ?_
  refine L_arg C0 hS2 hl 1 (by omega) hL d_La_1605 d_La_1606 d_La_1607 rfl d_La_1608 d_La_1609 ?_
  refine L_mod C0 hS2 hM.R (As := [.int (xs (i + 1))]) (rest := [.int (ans_lives σ.cr ((xs (i + 1))))]) (mT_lives hM hI (xs (i + 1))) (qI (fun _ _ z => z.2.R)) d_La_1610 ml_La_207 cb_TM_lives cv_TM_lives rfl rfl ⟨by decide, by decide⟩ rfl (Nat.le_of_ble_eq_true rfl) rfl rfl (Nat.le_of_ble_eq_true rfl) hl.1 ⟨by omega, by omega⟩ (fun v M' H' locs' hq hS3 => ?_)
  obtain ⟨-, r, rfl, rfl, hM2⟩ := hq
  refine lv_icmp_eq hx hb d_La_1613 (tgt := 2005) rfl (fun _ => ?_) (fun z => absurd rfl z)
  exact KK _ _ _ _ _ _ _ _ (by omega) (by omega) (by omega) hS3 hC2 hM2 (hI)
theorem law_c46 (C0 : lw_At p s m meth c bq L xs) (hS : LSt s X1 X2 G1 M1 M2 H locs) (hl : LH la bq i X1 X2) (hC : SC σ G1 M1) (hM : SM σ M2) (hI : SI σ) (hi : i + 6 ≤ L) (hL : L ≤ 3072) (hc : cells + 6 ≤ 600000) (hs : slots + 1509 ≤ 7302250) (hg : G1.1 + 6 < 1000000) (KK : LK p l e s m below meth c bq X1 X2 G1.1 cells slots la QF) : W p l e room_1 s m #[Value.ref bq] below meth c H locs cells slots QF (F0 m 1618 la []) := by
  have hx := C0.1
  have hb := C0.2.1
  have hsh : Sh G1 0 (0, 8) := hC.1.s (by decide) rfl
  refine lv_aload_n hx hb d_La_1618 rfl (lv_at hl 2 rfl) ?_
  refine L_cls C0 hS (As := []) (rest := []) (b' := 0) (bs' := 0) (cT_most hC hI ) d_La_1619 ml_La_208 cb_TP_most cv_TP_most rfl hsh rfl ⟨by decide, by decide⟩ rfl (Nat.le_of_ble_eq_true rfl) rfl (Nat.le_of_ble_eq_true rfl) hl.1 ⟨by omega, by omega⟩ (fun v G' M' H' locs' hq hS2 => ?_)
  obtain ⟨rfl, r, rfl, rfl, hC2⟩ := hq
  refine lv_aload_n hx hb d_La_1622 rfl (lv_at hl 1 rfl) ?_
  refine L_mod C0 hS2 hM.R (As := []) (rest := [.int (ans_most σ.cr)]) (mT_most hM hI ) (qI (fun _ _ z => z.2.R)) d_La_1623 ml_La_211 cb_TM_most cv_TM_most rfl rfl ⟨by decide, by decide⟩ rfl (Nat.le_of_ble_eq_true rfl) rfl rfl (Nat.le_of_ble_eq_true rfl) hl.1 ⟨by omega, by omega⟩ (fun v M' H' locs' hq hS3 => ?_)
  obtain ⟨-, r, rfl, rfl, hM2⟩ := hq
  refine lv_icmp_eq hx hb d_La_1626 (tgt := 2005) rfl (fun _ => ?_) (fun z => absurd rfl z)
  exact KK _ _ _ _ _ _ _ _ (by omega) (by omega) (by omega) hS3 hC2 hM2 (hI)
theorem law_c47 (C0 : lw_At p s m meth c bq L xs) (hS : LSt s X1 X2 G1 M1 M2 H locs) (hl : LH la bq i X1 X2) (hC : SC σ G1 M1) (hM : SM σ M2) (hI : SI σ) (hi : i + 6 ≤ L) (hL : L ≤ 3072) (hc : cells + 6 ≤ 600000) (hs : slots + 1509 ≤ 7302250) (hg : G1.1 + 6 < 1000000) (KK : LK p l e s m below meth c bq X1 X2 G1.1 cells slots la QF) : W p l e room_1 s m #[Value.ref bq] below meth c H locs cells slots QF (F0 m 1631 la []) := by
  have hx := C0.1
  have hb := C0.2.1
  have hsh : Sh G1 0 (0, 8) := hC.1.s (by decide) rfl
  refine lv_aload_n hx hb d_La_1631 rfl (lv_at hl 2 rfl) ?_
  refine L_arg C0 hS hl 1 (by omega) hL d_La_1632 d_La_1633 d_La_1634 rfl d_La_1635 d_La_1636 ?_
  refine L_bool C0 d_La_1637 d_La_1640 d_La_1641 d_La_1644 ?_
  refine L_cls C0 hS (As := [.int (if (xs (i + 1)) = 0 then nI 0 else nI 1)]) (rest := []) (b' := 0) (bs' := 0) (cT_fewest hC hI (if (xs (i + 1)) = 0 then nI 0 else nI 1)) d_La_1645 ml_La_212 cb_TP_fewest cv_TP_fewest rfl hsh rfl ⟨by decide, by decide⟩ rfl (Nat.le_of_ble_eq_true rfl) rfl (Nat.le_of_ble_eq_true rfl) hl.1 ⟨by omega, by omega⟩ (fun v G' M' H' locs' hq hS2 => ?_)
  obtain ⟨rfl, r, rfl, rfl, hC2⟩ := hq
  refine lv_aload_n hx hb d_La_1648 rfl (lv_at hl 1 rfl) ?_
  refine L_arg C0 hS2 hl 1 (by omega) hL d_La_1649 d_La_1650 d_La_1651 rfl d_La_1652 d_La_1653 ?_
  refine L_bool C0 d_La_1654 d_La_1657 d_La_1658 d_La_1661 ?_
  refine L_mod C0 hS2 hM.R (As := [.int (if (xs (i + 1)) = 0 then nI 0 else nI 1)]) (rest := [.int (ans_fewest σ.cr ((if (xs (i + 1)) = 0 then nI 0 else nI 1)))]) (mT_fewest hM hI (if (xs (i + 1)) = 0 then nI 0 else nI 1)) (qI (fun _ _ z => z.2.R)) d_La_1662 ml_La_215 cb_TM_fewest cv_TM_fewest rfl rfl ⟨by decide, by decide⟩ rfl (Nat.le_of_ble_eq_true rfl) rfl rfl (Nat.le_of_ble_eq_true rfl) hl.1 ⟨by omega, by omega⟩ (fun v M' H' locs' hq hS3 => ?_)
  obtain ⟨-, r, rfl, rfl, hM2⟩ := hq
  refine lv_icmp_eq hx hb d_La_1665 (tgt := 2005) rfl (fun _ => ?_) (fun z => absurd rfl z)
  exact KK _ _ _ _ _ _ _ _ (by omega) (by omega) (by omega) hS3 hC2 hM2 (hI)
theorem law_c48 (C0 : lw_At p s m meth c bq L xs) (hS : LSt s X1 X2 G1 M1 M2 H locs) (hl : LH la bq i X1 X2) (hC : SC σ G1 M1) (hM : SM σ M2) (hI : SI σ) (hi : i + 6 ≤ L) (hL : L ≤ 3072) (hc : cells + 6 ≤ 600000) (hs : slots + 1509 ≤ 7302250) (hg : G1.1 + 6 < 1000000) (KK : LK p l e s m below meth c bq X1 X2 G1.1 cells slots la QF) : W p l e room_1 s m #[Value.ref bq] below meth c H locs cells slots QF (F0 m 1670 la []) := by
  have hx := C0.1
  have hb := C0.2.1
  have hsh : Sh G1 0 (0, 8) := hC.1.s (by decide) rfl
  refine lv_aload_n hx hb d_La_1670 rfl (lv_at hl 2 rfl) ?_
  refine L_arg C0 hS hl 1 (by omega) hL d_La_1671 d_La_1672 d_La_1673 rfl d_La_1674 d_La_1675 ?_
  refine L_arg C0 hS hl 2 (by omega) hL d_La_1676 d_La_1677 d_La_1678 rfl d_La_1679 d_La_1680 ?_
  refine L_arg C0 hS hl 3 (by omega) hL d_La_1681 d_La_1682 d_La_1683 rfl d_La_1684 d_La_1685 ?_
  refine L_cls C0 hS (As := [.int (xs (i + 1)), .int (xs (i + 2)), .int (xs (i + 3))]) (rest := []) (b' := 0) (bs' := 0) (cT_decimal hC hI (xs (i + 1)) (xs (i + 2)) (xs (i + 3))) d_La_1686 ml_La_216 cb_TP_decimal cv_TP_decimal rfl hsh rfl ⟨by decide, by decide⟩ rfl (Nat.le_of_ble_eq_true rfl) rfl (Nat.le_of_ble_eq_true rfl) hl.1 ⟨by omega, by omega⟩ (fun v G' M' H' locs' hq hS2 => ?_)
  obtain ⟨rfl, r, rfl, rfl, hC2⟩ := hq
  refine lv_aload_n hx hb d_La_1689 rfl (lv_at hl 1 rfl) ?_
  refine L_arg C0 hS2 hl 1 (by omega) hL d_La_1690 d_La_1691 d_La_1692 rfl d_La_1693 d_La_1694 ?_
  refine L_arg C0 hS2 hl 2 (by omega) hL d_La_1695 d_La_1696 d_La_1697 rfl d_La_1698 d_La_1699 ?_
  refine L_arg C0 hS2 hl 3 (by omega) hL d_La_1700 d_La_1701 d_La_1702 rfl d_La_1703 d_La_1704 ?_
  refine L_mod C0 hS2 hM.R (As := [.int (xs (i + 1)), .int (xs (i + 2)), .int (xs (i + 3))]) (rest := [.int (ans_decimal ((xs (i + 1))) ((xs (i + 2))) ((xs (i + 3))))]) (mT_decimal hM hI (xs (i + 1)) (xs (i + 2)) (xs (i + 3))) (qI (fun _ _ z => z.2.R)) d_La_1705 ml_La_219 cb_TM_decimal cv_TM_decimal rfl rfl ⟨by decide, by decide⟩ rfl (Nat.le_of_ble_eq_true rfl) rfl rfl (Nat.le_of_ble_eq_true rfl) hl.1 ⟨by omega, by omega⟩ (fun v M' H' locs' hq hS3 => ?_)
  obtain ⟨-, r, rfl, rfl, hM2⟩ := hq
  refine lv_icmp_eq hx hb d_La_1708 (tgt := 2005) rfl (fun _ => ?_) (fun z => absurd rfl z)
  exact KK _ _ _ _ _ _ _ _ (by omega) (by omega) (by omega) hS3 hC2 hM2 (hI)
theorem law_c49 (C0 : lw_At p s m meth c bq L xs) (hS : LSt s X1 X2 G1 M1 M2 H locs) (hl : LH la bq i X1 X2) (hC : SC σ G1 M1) (hM : SM σ M2) (hI : SI σ) (hi : i + 6 ≤ L) (hL : L ≤ 3072) (hc : cells + 6 ≤ 600000) (hs : slots + 1509 ≤ 7302250) (hg : G1.1 + 6 < 1000000) (KK : LK p l e s m below meth c bq X1 X2 G1.1 cells slots la QF) : W p l e room_1 s m #[Value.ref bq] below meth c H locs cells slots QF (F0 m 1713 la []) := by
  have hx := C0.1
  have hb := C0.2.1
  have hsh : Sh G1 0 (0, 8) := hC.1.s (by decide) rfl
  refine lv_aload_n hx hb d_La_1713 rfl (lv_at hl 2 rfl) ?_
  refine L_arg C0 hS hl 1 (by omega) hL d_La_1714 d_La_1715 d_La_1716 rfl d_La_1717 d_La_1718 ?_
  refine L_arg C0 hS hl 2 (by omega) hL d_La_1719 d_La_1720 d_La_1721 rfl d_La_1722 d_La_1723 ?_
  refine L_arg C0 hS hl 3 (by omega) hL d_La_1724 d_La_1725 d_La_1726 rfl d_La_1727 d_La_1728 ?_
  refine L_bool C0 d_La_1729 d_La_1732 d_La_1733 d_La_1736 ?_
  refine L_cls C0 hS (As := [.int (xs (i + 1)), .int (xs (i + 2)), .int (if (xs (i + 3)) = 0 then nI 0 else nI 1)]) (rest := []) (b' := 0) (bs' := 0) (cT_decimals hC hI (xs (i + 1)) (xs (i + 2)) (if (xs (i + 3)) = 0 then nI 0 else nI 1)) d_La_1737 ml_La_220 cb_TP_decimals cv_TP_decimals rfl hsh rfl ⟨by decide, by decide⟩ rfl (Nat.le_of_ble_eq_true rfl) rfl (Nat.le_of_ble_eq_true rfl) hl.1 ⟨by omega, by omega⟩ (fun v G' M' H' locs' hq hS2 => ?_)
  obtain ⟨rfl, r, rfl, rfl, hC2⟩ := hq
  refine lv_aload_n hx hb d_La_1740 rfl (lv_at hl 1 rfl) ?_
  refine L_arg C0 hS2 hl 1 (by omega) hL d_La_1741 d_La_1742 d_La_1743 rfl d_La_1744 d_La_1745 ?_
  refine L_arg C0 hS2 hl 2 (by omega) hL d_La_1746 d_La_1747 d_La_1748 rfl d_La_1749 d_La_1750 ?_
  refine L_arg C0 hS2 hl 3 (by omega) hL d_La_1751 d_La_1752 d_La_1753 rfl d_La_1754 d_La_1755 ?_
  refine L_bool C0 d_La_1756 d_La_1759 d_La_1760 d_La_1763 ?_
  refine L_mod C0 hS2 hM.R (As := [.int (xs (i + 1)), .int (xs (i + 2)), .int (if (xs (i + 3)) = 0 then nI 0 else nI 1)]) (rest := [.int (ans_decimals ((xs (i + 1))) ((xs (i + 2))) ((if (xs (i + 3)) = 0 then nI 0 else nI 1)))]) (mT_decimals hM hI (xs (i + 1)) (xs (i + 2)) (if (xs (i + 3)) = 0 then nI 0 else nI 1)) (qI (fun _ _ z => z.2.R)) d_La_1764 ml_La_224 cb_TM_decimals cv_TM_decimals rfl rfl ⟨by decide, by decide⟩ rfl (Nat.le_of_ble_eq_true rfl) rfl rfl (Nat.le_of_ble_eq_true rfl) hl.1 ⟨by omega, by omega⟩ (fun v M' H' locs' hq hS3 => ?_)
  obtain ⟨-, r, rfl, rfl, hM2⟩ := hq
  refine lv_icmp_eq hx hb d_La_1767 (tgt := 2005) rfl (fun _ => ?_) (fun z => absurd rfl z)
  exact KK _ _ _ _ _ _ _ _ (by omega) (by omega) (by omega) hS3 hC2 hM2 (hI)
theorem law_c50 (C0 : lw_At p s m meth c bq L xs) (hS : LSt s X1 X2 G1 M1 M2 H locs) (hl : LH la bq i X1 X2) (hC : SC σ G1 M1) (hM : SM σ M2) (hI : SI σ) (hi : i + 6 ≤ L) (hL : L ≤ 3072) (hc : cells + 6 ≤ 600000) (hs : slots + 1509 ≤ 7302250) (hg : G1.1 + 6 < 1000000) (KK : LK p l e s m below meth c bq X1 X2 G1.1 cells slots la QF) : W p l e room_1 s m #[Value.ref bq] below meth c H locs cells slots QF (F0 m 1772 la []) := by
  have hx := C0.1
  have hb := C0.2.1
  have hsh : Sh G1 0 (0, 8) := hC.1.s (by decide) rfl
  refine lv_aload_n hx hb d_La_1772 rfl (lv_at hl 2 rfl) ?_
  refine L_arg C0 hS hl 1 (by omega) hL d_La_1773 d_La_1774 d_La_1775 rfl d_La_1776 d_La_1777 ?_
  refine L_arg C0 hS hl 2 (by omega) hL d_La_1778 d_La_1779 d_La_1780 rfl d_La_1781 d_La_1782 ?_
  refine L_cls C0 hS (As := [.int (xs (i + 1)), .int (xs (i + 2))]) (rest := []) (b' := 0) (bs' := 0) (cT_village hC hI (xs (i + 1)) (xs (i + 2))) d_La_1783 ml_La_225 cb_TP_village cv_TP_village rfl hsh rfl ⟨by decide, by decide⟩ rfl (Nat.le_of_ble_eq_true rfl) rfl (Nat.le_of_ble_eq_true rfl) hl.1 ⟨by omega, by omega⟩ (fun v G' M' H' locs' hq hS2 => ?_)
  obtain ⟨rfl, r, rfl, rfl, hC2⟩ := hq
  refine lv_aload_n hx hb d_La_1786 rfl (lv_at hl 1 rfl) ?_
  refine L_arg C0 hS2 hl 1 (by omega) hL d_La_1787 d_La_1788 d_La_1789 rfl d_La_1790 d_La_1791 ?_
  refine L_arg C0 hS2 hl 2 (by omega) hL d_La_1792 d_La_1793 d_La_1794 rfl d_La_1795 d_La_1796 ?_
  refine L_mod C0 hS2 hM.R (As := [.int (xs (i + 1)), .int (xs (i + 2))]) (rest := [.int (pI (inN ((xs (i + 1))) 10 ∧ inN ((xs (i + 2))) 100))]) (mT_village hM hI (xs (i + 1)) (xs (i + 2))) (qI (fun _ _ z => z.2.R)) d_La_1797 ml_La_228 cb_TM_village cv_TM_village rfl rfl ⟨by decide, by decide⟩ rfl (Nat.le_of_ble_eq_true rfl) rfl rfl (Nat.le_of_ble_eq_true rfl) hl.1 ⟨by omega, by omega⟩ (fun v M' H' locs' hq hS3 => ?_)
  obtain ⟨-, r, rfl, rfl, hM2⟩ := hq
  refine lv_icmp_eq hx hb d_La_1800 (tgt := 2005) rfl (fun _ => ?_) (fun z => absurd rfl z)
  exact KK _ _ _ _ _ _ _ _ (by omega) (by omega) (by omega) hS3 hC2 hM2 (iT_village hI (xs (i + 1)) (xs (i + 2)))
theorem law_c51 (C0 : lw_At p s m meth c bq L xs) (hS : LSt s X1 X2 G1 M1 M2 H locs) (hl : LH la bq i X1 X2) (hC : SC σ G1 M1) (hM : SM σ M2) (hI : SI σ) (hi : i + 6 ≤ L) (hL : L ≤ 3072) (hc : cells + 6 ≤ 600000) (hs : slots + 1509 ≤ 7302250) (hg : G1.1 + 6 < 1000000) (KK : LK p l e s m below meth c bq X1 X2 G1.1 cells slots la QF) : W p l e room_1 s m #[Value.ref bq] below meth c H locs cells slots QF (F0 m 1805 la []) := by
  have hx := C0.1
  have hb := C0.2.1
  have hsh : Sh G1 0 (0, 8) := hC.1.s (by decide) rfl
  refine lv_aload_n hx hb d_La_1805 rfl (lv_at hl 2 rfl) ?_
  refine L_arg C0 hS hl 1 (by omega) hL d_La_1806 d_La_1807 d_La_1808 rfl d_La_1809 d_La_1810 ?_
  refine L_arg C0 hS hl 2 (by omega) hL d_La_1811 d_La_1812 d_La_1813 rfl d_La_1814 d_La_1815 ?_
  refine L_cls C0 hS (As := [.int (xs (i + 1)), .int (xs (i + 2))]) (rest := []) (b' := 0) (bs' := 0) (cT_window hC hI (xs (i + 1)) (xs (i + 2))) d_La_1816 ml_La_229 cb_TP_window cv_TP_window rfl hsh rfl ⟨by decide, by decide⟩ rfl (Nat.le_of_ble_eq_true rfl) rfl (Nat.le_of_ble_eq_true rfl) hl.1 ⟨by omega, by omega⟩ (fun v G' M' H' locs' hq hS2 => ?_)
  obtain ⟨rfl, r, rfl, rfl, hC2⟩ := hq
  refine lv_aload_n hx hb d_La_1819 rfl (lv_at hl 1 rfl) ?_
  refine L_arg C0 hS2 hl 1 (by omega) hL d_La_1820 d_La_1821 d_La_1822 rfl d_La_1823 d_La_1824 ?_
  refine L_arg C0 hS2 hl 2 (by omega) hL d_La_1825 d_La_1826 d_La_1827 rfl d_La_1828 d_La_1829 ?_
  refine L_mod C0 hS2 hM.R (As := [.int (xs (i + 1)), .int (xs (i + 2))]) (rest := [.int (ans_window σ.cr ((xs (i + 1))) ((xs (i + 2))))]) (mT_window hM hI (xs (i + 1)) (xs (i + 2))) (qI (fun _ _ z => z.2.R)) d_La_1830 ml_La_232 cb_TM_window cv_TM_window rfl rfl ⟨by decide, by decide⟩ rfl (Nat.le_of_ble_eq_true rfl) rfl rfl (Nat.le_of_ble_eq_true rfl) hl.1 ⟨by omega, by omega⟩ (fun v M' H' locs' hq hS3 => ?_)
  obtain ⟨-, r, rfl, rfl, hM2⟩ := hq
  refine lv_icmp_eq hx hb d_La_1833 (tgt := 2005) rfl (fun _ => ?_) (fun z => absurd rfl z)
  exact KK _ _ _ _ _ _ _ _ (by omega) (by omega) (by omega) hS3 hC2 hM2 (hI)
theorem law_c52 (C0 : lw_At p s m meth c bq L xs) (hS : LSt s X1 X2 G1 M1 M2 H locs) (hl : LH la bq i X1 X2) (hC : SC σ G1 M1) (hM : SM σ M2) (hI : SI σ) (hi : i + 6 ≤ L) (hL : L ≤ 3072) (hc : cells + 6 ≤ 600000) (hs : slots + 1509 ≤ 7302250) (hg : G1.1 + 6 < 1000000) (KK : LK p l e s m below meth c bq X1 X2 G1.1 cells slots la QF) : W p l e room_1 s m #[Value.ref bq] below meth c H locs cells slots QF (F0 m 1838 la []) := by
  have hx := C0.1
  have hb := C0.2.1
  have hsh : Sh G1 0 (0, 8) := hC.1.s (by decide) rfl
  refine lv_aload_n hx hb d_La_1838 rfl (lv_at hl 2 rfl) ?_
  refine L_arg C0 hS hl 1 (by omega) hL d_La_1839 d_La_1840 d_La_1841 rfl d_La_1842 d_La_1843 ?_
  refine L_cls C0 hS (As := [.int (xs (i + 1))]) (rest := []) (b' := 0) (bs' := 0) (cT_busiest hC hI (xs (i + 1))) d_La_1844 ml_La_233 cb_TP_busiest cv_TP_busiest rfl hsh rfl ⟨by decide, by decide⟩ rfl (Nat.le_of_ble_eq_true rfl) rfl (Nat.le_of_ble_eq_true rfl) hl.1 ⟨by omega, by omega⟩ (fun v G' M' H' locs' hq hS2 => ?_)
  obtain ⟨rfl, r, rfl, rfl, hC2⟩ := hq
  refine lv_aload_n hx hb d_La_1847 rfl (lv_at hl 1 rfl) ?_
  refine L_arg C0 hS2 hl 1 (by omega) hL d_La_1848 d_La_1849 d_La_1850 rfl d_La_1851 d_La_1852 ?_
  refine L_mod C0 hS2 hM.R (As := [.int (xs (i + 1))]) (rest := [.int (ans_busiest σ.cr ((xs (i + 1))))]) (mT_busiest hM hI (xs (i + 1))) (qI (fun _ _ z => z.2.R)) d_La_1853 ml_La_236 cb_TM_busiest cv_TM_busiest rfl rfl ⟨by decide, by decide⟩ rfl (Nat.le_of_ble_eq_true rfl) rfl rfl (Nat.le_of_ble_eq_true rfl) hl.1 ⟨by omega, by omega⟩ (fun v M' H' locs' hq hS3 => ?_)
  obtain ⟨-, r, rfl, rfl, hM2⟩ := hq
  refine lv_icmp_eq hx hb d_La_1856 (tgt := 2005) rfl (fun _ => ?_) (fun z => absurd rfl z)
  exact KK _ _ _ _ _ _ _ _ (by omega) (by omega) (by omega) hS3 hC2 hM2 (hI)
theorem law_c53 (C0 : lw_At p s m meth c bq L xs) (hS : LSt s X1 X2 G1 M1 M2 H locs) (hl : LH la bq i X1 X2) (hC : SC σ G1 M1) (hM : SM σ M2) (hI : SI σ) (hi : i + 6 ≤ L) (hL : L ≤ 3072) (hc : cells + 6 ≤ 600000) (hs : slots + 1509 ≤ 7302250) (hg : G1.1 + 6 < 1000000) (KK : LK p l e s m below meth c bq X1 X2 G1.1 cells slots la QF) : W p l e room_1 s m #[Value.ref bq] below meth c H locs cells slots QF (F0 m 1861 la []) := by
  have hx := C0.1
  have hb := C0.2.1
  have hsh : Sh G1 0 (0, 8) := hC.1.s (by decide) rfl
  refine lv_aload_n hx hb d_La_1861 rfl (lv_at hl 2 rfl) ?_
  refine L_arg C0 hS hl 1 (by omega) hL d_La_1862 d_La_1863 d_La_1864 rfl d_La_1865 d_La_1866 ?_
  refine L_arg C0 hS hl 2 (by omega) hL d_La_1867 d_La_1868 d_La_1869 rfl d_La_1870 d_La_1871 ?_
  refine L_cls C0 hS (As := [.int (xs (i + 1)), .int (xs (i + 2))]) (rest := []) (b' := 0) (bs' := 0) (cT_said hC hI (xs (i + 1)) (xs (i + 2))) d_La_1872 ml_La_237 cb_TP_said cv_TP_said rfl hsh rfl ⟨by decide, by decide⟩ rfl (Nat.le_of_ble_eq_true rfl) rfl (Nat.le_of_ble_eq_true rfl) hl.1 ⟨by omega, by omega⟩ (fun v G' M' H' locs' hq hS2 => ?_)
  obtain ⟨rfl, r, rfl, rfl, hC2⟩ := hq
  refine lv_aload_n hx hb d_La_1875 rfl (lv_at hl 1 rfl) ?_
  refine L_arg C0 hS2 hl 1 (by omega) hL d_La_1876 d_La_1877 d_La_1878 rfl d_La_1879 d_La_1880 ?_
  refine L_arg C0 hS2 hl 2 (by omega) hL d_La_1881 d_La_1882 d_La_1883 rfl d_La_1884 d_La_1885 ?_
  refine L_mod C0 hS2 hM.R (As := [.int (xs (i + 1)), .int (xs (i + 2))]) (rest := [.int (ans_said σ.cr ((xs (i + 1))) ((xs (i + 2))))]) (mT_said hM hI (xs (i + 1)) (xs (i + 2))) (qI (fun _ _ z => z.2.R)) d_La_1886 ml_La_240 cb_TM_said cv_TM_said rfl rfl ⟨by decide, by decide⟩ rfl (Nat.le_of_ble_eq_true rfl) rfl rfl (Nat.le_of_ble_eq_true rfl) hl.1 ⟨by omega, by omega⟩ (fun v M' H' locs' hq hS3 => ?_)
  obtain ⟨-, r, rfl, rfl, hM2⟩ := hq
  refine lv_icmp_eq hx hb d_La_1889 (tgt := 2005) rfl (fun _ => ?_) (fun z => absurd rfl z)
  exact KK _ _ _ _ _ _ _ _ (by omega) (by omega) (by omega) hS3 hC2 hM2 (iT_said hI (xs (i + 1)) (xs (i + 2)))
theorem law_c54 (C0 : lw_At p s m meth c bq L xs) (hS : LSt s X1 X2 G1 M1 M2 H locs) (hl : LH la bq i X1 X2) (hC : SC σ G1 M1) (hM : SM σ M2) (hI : SI σ) (hi : i + 6 ≤ L) (hL : L ≤ 3072) (hc : cells + 6 ≤ 600000) (hs : slots + 1509 ≤ 7302250) (hg : G1.1 + 6 < 1000000) (KK : LK p l e s m below meth c bq X1 X2 G1.1 cells slots la QF) : W p l e room_1 s m #[Value.ref bq] below meth c H locs cells slots QF (F0 m 1894 la []) := by
  have hx := C0.1
  have hb := C0.2.1
  have hsh : Sh G1 0 (0, 8) := hC.1.s (by decide) rfl
  refine lv_aload_n hx hb d_La_1894 rfl (lv_at hl 2 rfl) ?_
  refine L_cls C0 hS (As := []) (rest := []) (b' := 0) (bs' := 0) (cT_whose hC hI ) d_La_1895 ml_La_241 cb_TP_whose cv_TP_whose rfl hsh rfl ⟨by decide, by decide⟩ rfl (Nat.le_of_ble_eq_true rfl) rfl (Nat.le_of_ble_eq_true rfl) hl.1 ⟨by omega, by omega⟩ (fun v G' M' H' locs' hq hS2 => ?_)
  obtain ⟨rfl, r, rfl, rfl, hC2⟩ := hq
  refine lv_aload_n hx hb d_La_1898 rfl (lv_at hl 1 rfl) ?_
  refine L_mod C0 hS2 hM.R (As := []) (rest := [.int (ans_whose σ.cr)]) (mT_whose hM hI ) (qI (fun _ _ z => z.2.R)) d_La_1899 ml_La_244 cb_TM_whose cv_TM_whose rfl rfl ⟨by decide, by decide⟩ rfl (Nat.le_of_ble_eq_true rfl) rfl rfl (Nat.le_of_ble_eq_true rfl) hl.1 ⟨by omega, by omega⟩ (fun v M' H' locs' hq hS3 => ?_)
  obtain ⟨-, r, rfl, rfl, hM2⟩ := hq
  refine lv_icmp_eq hx hb d_La_1902 (tgt := 2005) rfl (fun _ => ?_) (fun z => absurd rfl z)
  exact KK _ _ _ _ _ _ _ _ (by omega) (by omega) (by omega) hS3 hC2 hM2 (hI)
theorem law_c55 (C0 : lw_At p s m meth c bq L xs) (hS : LSt s X1 X2 G1 M1 M2 H locs) (hl : LH la bq i X1 X2) (hC : SC σ G1 M1) (hM : SM σ M2) (hI : SI σ) (hi : i + 6 ≤ L) (hL : L ≤ 3072) (hc : cells + 6 ≤ 600000) (hs : slots + 1509 ≤ 7302250) (hg : G1.1 + 6 < 1000000) (KK : LK p l e s m below meth c bq X1 X2 G1.1 cells slots la QF) : W p l e room_1 s m #[Value.ref bq] below meth c H locs cells slots QF (F0 m 1907 la []) := by
  have hx := C0.1
  have hb := C0.2.1
  have hsh : Sh G1 0 (0, 8) := hC.1.s (by decide) rfl
  refine lv_aload_n hx hb d_La_1907 rfl (lv_at hl 2 rfl) ?_
  refine L_cls C0 hS (As := []) (rest := []) (b' := 0) (bs' := 0) (cT_honest hC hI ) d_La_1908 ml_La_245 cb_TP_honest cv_TP_honest rfl hsh rfl ⟨by decide, by decide⟩ rfl (Nat.le_of_ble_eq_true rfl) rfl (Nat.le_of_ble_eq_true rfl) hl.1 ⟨by omega, by omega⟩ (fun v G' M' H' locs' hq hS2 => ?_)
  obtain ⟨rfl, r, rfl, rfl, hC2⟩ := hq
  refine lv_aload_n hx hb d_La_1911 rfl (lv_at hl 1 rfl) ?_
  refine L_mod C0 hS2 hM.R (As := []) (rest := [.int (ans_honest σ.cr)]) (mT_honest hM hI ) (qI (fun _ _ z => z.2.R)) d_La_1912 ml_La_248 cb_TM_honest cv_TM_honest rfl rfl ⟨by decide, by decide⟩ rfl (Nat.le_of_ble_eq_true rfl) rfl rfl (Nat.le_of_ble_eq_true rfl) hl.1 ⟨by omega, by omega⟩ (fun v M' H' locs' hq hS3 => ?_)
  obtain ⟨-, r, rfl, rfl, hM2⟩ := hq
  refine lv_icmp_eq hx hb d_La_1915 (tgt := 2005) rfl (fun _ => ?_) (fun z => absurd rfl z)
  exact KK _ _ _ _ _ _ _ _ (by omega) (by omega) (by omega) hS3 hC2 hM2 (hI)
theorem law_c56 (C0 : lw_At p s m meth c bq L xs) (hS : LSt s X1 X2 G1 M1 M2 H locs) (hl : LH la bq i X1 X2) (hC : SC σ G1 M1) (hM : SM σ M2) (hI : SI σ) (hi : i + 6 ≤ L) (hL : L ≤ 3072) (hc : cells + 6 ≤ 600000) (hs : slots + 1509 ≤ 7302250) (hg : G1.1 + 6 < 1000000) (KK : LK p l e s m below meth c bq X1 X2 G1.1 cells slots la QF) : W p l e room_1 s m #[Value.ref bq] below meth c H locs cells slots QF (F0 m 1920 la []) := by
  have hx := C0.1
  have hb := C0.2.1
  have hsh : Sh G1 0 (0, 8) := hC.1.s (by decide) rfl
  refine lv_aload_n hx hb d_La_1920 rfl (lv_at hl 2 rfl) ?_
  refine L_cls C0 hS (As := []) (rest := []) (b' := 0) (bs' := 0) (cT_changes hC hI ) d_La_1921 ml_La_249 cb_TP_changes cv_TP_changes rfl hsh rfl ⟨by decide, by decide⟩ rfl (Nat.le_of_ble_eq_true rfl) rfl (Nat.le_of_ble_eq_true rfl) hl.1 ⟨by omega, by omega⟩ (fun v G' M' H' locs' hq hS2 => ?_)
  obtain ⟨rfl, r, rfl, rfl, hC2⟩ := hq
  refine lv_aload_n hx hb d_La_1924 rfl (lv_at hl 1 rfl) ?_
  refine L_mod C0 hS2 hM.R (As := []) (rest := [.int (ans_changes σ.cr)]) (mT_changes hM hI ) (qI (fun _ _ z => z.2.R)) d_La_1925 ml_La_252 cb_TM_changes cv_TM_changes rfl rfl ⟨by decide, by decide⟩ rfl (Nat.le_of_ble_eq_true rfl) rfl rfl (Nat.le_of_ble_eq_true rfl) hl.1 ⟨by omega, by omega⟩ (fun v M' H' locs' hq hS3 => ?_)
  obtain ⟨-, r, rfl, rfl, hM2⟩ := hq
  refine lv_icmp_eq hx hb d_La_1928 (tgt := 2005) rfl (fun _ => ?_) (fun z => absurd rfl z)
  exact KK _ _ _ _ _ _ _ _ (by omega) (by omega) (by omega) hS3 hC2 hM2 (hI)
theorem law_c57 (C0 : lw_At p s m meth c bq L xs) (hS : LSt s X1 X2 G1 M1 M2 H locs) (hl : LH la bq i X1 X2) (hC : SC σ G1 M1) (hM : SM σ M2) (hI : SI σ) (hi : i + 6 ≤ L) (hL : L ≤ 3072) (hc : cells + 6 ≤ 600000) (hs : slots + 1509 ≤ 7302250) (hg : G1.1 + 6 < 1000000) (KK : LK p l e s m below meth c bq X1 X2 G1.1 cells slots la QF) : W p l e room_1 s m #[Value.ref bq] below meth c H locs cells slots QF (F0 m 1933 la []) := by
  have hx := C0.1
  have hb := C0.2.1
  have hsh : Sh G1 0 (0, 8) := hC.1.s (by decide) rfl
  refine lv_aload_n hx hb d_La_1933 rfl (lv_at hl 2 rfl) ?_
  refine L_arg C0 hS hl 1 (by omega) hL d_La_1934 d_La_1935 d_La_1936 rfl d_La_1937 d_La_1938 ?_
  refine L_cls C0 hS (As := [.int (xs (i + 1))]) (rest := []) (b' := 0) (bs' := 0) (cT_ledger hC hI (xs (i + 1))) d_La_1939 ml_La_253 cb_TP_ledger cv_TP_ledger rfl hsh rfl ⟨by decide, by decide⟩ rfl (Nat.le_of_ble_eq_true rfl) rfl (Nat.le_of_ble_eq_true rfl) hl.1 ⟨by omega, by omega⟩ (fun v G' M' H' locs' hq hS2 => ?_)
  obtain ⟨rfl, r, rfl, rfl, hC2⟩ := hq
  refine lv_aload_n hx hb d_La_1942 rfl (lv_at hl 1 rfl) ?_
  refine L_arg C0 hS2 hl 1 (by omega) hL d_La_1943 d_La_1944 d_La_1945 rfl d_La_1946 d_La_1947 ?_
  refine L_mod C0 hS2 hM.R (As := [.int (xs (i + 1))]) (rest := [.int (ans_ledger σ.cr ((xs (i + 1))))]) (mT_ledger hM hI (xs (i + 1))) (qI (fun _ _ z => z.2.R)) d_La_1948 ml_La_256 cb_TM_ledger cv_TM_ledger rfl rfl ⟨by decide, by decide⟩ rfl (Nat.le_of_ble_eq_true rfl) rfl rfl (Nat.le_of_ble_eq_true rfl) hl.1 ⟨by omega, by omega⟩ (fun v M' H' locs' hq hS3 => ?_)
  obtain ⟨-, r, rfl, rfl, hM2⟩ := hq
  refine lv_icmp_eq hx hb d_La_1951 (tgt := 2005) rfl (fun _ => ?_) (fun z => absurd rfl z)
  exact KK _ _ _ _ _ _ _ _ (by omega) (by omega) (by omega) hS3 hC2 hM2 (hI)
theorem law_c58 (C0 : lw_At p s m meth c bq L xs) (hS : LSt s X1 X2 G1 M1 M2 H locs) (hl : LH la bq i X1 X2) (hC : SC σ G1 M1) (hM : SM σ M2) (hI : SI σ) (hi : i + 6 ≤ L) (hL : L ≤ 3072) (hc : cells + 6 ≤ 600000) (hs : slots + 1509 ≤ 7302250) (hg : G1.1 + 6 < 1000000) (KK : LK p l e s m below meth c bq X1 X2 G1.1 cells slots la QF) : W p l e room_1 s m #[Value.ref bq] below meth c H locs cells slots QF (F0 m 1956 la []) := by
  have hx := C0.1
  have hb := C0.2.1
  have hsh : Sh G1 0 (0, 8) := hC.1.s (by decide) rfl
  have hM0 := hM
  refine lv_aload_n hx hb d_La_1956 rfl (lv_at hl 2 rfl) ?_
  refine L_cls C0 hS (As := []) (rest := []) (b' := 0) (bs' := 0) (cT_image hC hI ) d_La_1957 ml_La_257 cb_TP_image cv_TP_image rfl hsh rfl ⟨by decide, by decide⟩ rfl (Nat.le_of_ble_eq_true rfl) rfl (Nat.le_of_ble_eq_true rfl) hl.1 ⟨by omega, by omega⟩ (fun v G' M' H' locs' hq hS2 => ?_)
  obtain ⟨rfl, r, rfl, rfl, hC2⟩ := hq
  refine lv_aload_n hx hb d_La_1960 rfl (lv_at hl 1 rfl) ?_
  refine L_mod C0 hS2 hM.R (As := []) (rest := [.int (nI σ.cr.now.round)]) (mT_image hM hI ) (qI (fun _ _ z => z.2.R)) d_La_1961 ml_La_260 cb_TM_image cv_TM_image rfl rfl ⟨by decide, by decide⟩ rfl (Nat.le_of_ble_eq_true rfl) rfl rfl (Nat.le_of_ble_eq_true rfl) hl.1 ⟨by omega, by omega⟩ (fun v M' H' locs' hq hS3 => ?_)
  obtain ⟨-, r, rfl, rfl, hM2⟩ := hq
  refine lv_icmp_eq hx hb d_La_1964 (tgt := 2005) rfl (fun _ => ?_) (fun z => absurd rfl z)
  exact KK _ _ _ _ _ _ _ _ (by omega) (by omega) (by omega) hS3 hC2 hM2 (iT_image hI hM0.1.w)
theorem law_c59 (C0 : lw_At p s m meth c bq L xs) (hS : LSt s X1 X2 G1 M1 M2 H locs) (hl : LH la bq i X1 X2) (hC : SC σ G1 M1) (hM : SM σ M2) (hI : SI σ) (hi : i + 6 ≤ L) (hL : L ≤ 3072) (hc : cells + 6 ≤ 600000) (hs : slots + 1509 ≤ 7302250) (hg : G1.1 + 6 < 1000000) (KK : LK p l e s m below meth c bq X1 X2 G1.1 cells slots la QF) : W p l e room_1 s m #[Value.ref bq] below meth c H locs cells slots QF (F0 m 1969 la []) := by
  have hx := C0.1
  have hb := C0.2.1
  have hsh : Sh G1 0 (0, 8) := hC.1.s (by decide) rfl
  refine lv_aload_n hx hb d_La_1969 rfl (lv_at hl 2 rfl) ?_
  refine L_cls C0 hS (As := []) (rest := []) (b' := 0) (bs' := 0) (cT_back hC hI ) d_La_1970 ml_La_261 cb_TP_back cv_TP_back rfl hsh rfl ⟨by decide, by decide⟩ rfl (Nat.le_of_ble_eq_true rfl) rfl (Nat.le_of_ble_eq_true rfl) hl.1 ⟨by omega, by omega⟩ (fun v G' M' H' locs' hq hS2 => ?_)
  obtain ⟨rfl, r, rfl, rfl, hC2⟩ := hq
  refine lv_aload_n hx hb d_La_1973 rfl (lv_at hl 1 rfl) ?_
  refine L_mod C0 hS2 hM.R (As := []) (rest := [.int (nI σ.img.now.round)]) (mT_back hM hI ) (qI (fun _ _ z => z.2.R)) d_La_1974 ml_La_264 cb_TM_back cv_TM_back rfl rfl ⟨by decide, by decide⟩ rfl (Nat.le_of_ble_eq_true rfl) rfl rfl (Nat.le_of_ble_eq_true rfl) hl.1 ⟨by omega, by omega⟩ (fun v M' H' locs' hq hS3 => ?_)
  obtain ⟨-, r, rfl, rfl, hM2⟩ := hq
  refine lv_icmp_eq hx hb d_La_1977 (tgt := 2005) rfl (fun _ => ?_) (fun z => absurd rfl z)
  exact KK _ _ _ _ _ _ _ _ (by omega) (by omega) (by omega) hS3 hC2 hM2 (iT_back hI)
theorem law_c60 (C0 : lw_At p s m meth c bq L xs) (hS : LSt s X1 X2 G1 M1 M2 H locs) (hl : LH la bq i X1 X2) (hC : SC σ G1 M1) (hM : SM σ M2) (hI : SI σ) (hi : i + 6 ≤ L) (hL : L ≤ 3072) (hc : cells + 6 ≤ 600000) (hs : slots + 1509 ≤ 7302250) (hg : G1.1 + 6 < 1000000) (KK : LK p l e s m below meth c bq X1 X2 G1.1 cells slots la QF) : W p l e room_1 s m #[Value.ref bq] below meth c H locs cells slots QF (F0 m 1982 la []) := by
  have hx := C0.1
  have hb := C0.2.1
  have hsh : Sh G1 0 (0, 8) := hC.1.s (by decide) rfl
  refine lv_aload_n hx hb d_La_1982 rfl (lv_at hl 2 rfl) ?_
  refine L_arg C0 hS hl 1 (by omega) hL d_La_1983 d_La_1984 d_La_1985 rfl d_La_1986 d_La_1987 ?_
  refine L_cls C0 hS (As := [.int (xs (i + 1))]) (rest := []) (b' := 0) (bs' := 0) (cT_about hC hI (xs (i + 1))) d_La_1988 ml_La_265 cb_TP_about cv_TP_about rfl hsh rfl ⟨by decide, by decide⟩ rfl (Nat.le_of_ble_eq_true rfl) rfl (Nat.le_of_ble_eq_true rfl) hl.1 ⟨by omega, by omega⟩ (fun v G' M' H' locs' hq hS2 => ?_)
  obtain ⟨rfl, r, rfl, rfl, hC2⟩ := hq
  refine lv_aload_n hx hb d_La_1991 rfl (lv_at hl 1 rfl) ?_
  refine L_arg C0 hS2 hl 1 (by omega) hL d_La_1992 d_La_1993 d_La_1994 rfl d_La_1995 d_La_1996 ?_
  refine L_mod C0 hS2 hM.R (As := [.int (xs (i + 1))]) (rest := [.int (ans_about σ.cr σ.tape.length ((xs (i + 1))))]) (mT_about hM hI (xs (i + 1))) (qI (fun _ _ z => z.2.R)) d_La_1997 ml_La_268 cb_TM_about cv_TM_about rfl rfl ⟨by decide, by decide⟩ rfl (Nat.le_of_ble_eq_true rfl) rfl rfl (Nat.le_of_ble_eq_true rfl) hl.1 ⟨by omega, by omega⟩ (fun v M' H' locs' hq hS3 => ?_)
  obtain ⟨-, r, rfl, rfl, hM2⟩ := hq
  refine lv_icmp_eq hx hb d_La_2000 (tgt := 2005) rfl (fun _ => ?_) (fun z => absurd rfl z)
  exact KK _ _ _ _ _ _ _ _ (by omega) (by omega) (by omega) hS3 hC2 hM2 (hI)
end LWD

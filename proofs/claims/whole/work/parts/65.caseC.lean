/-! the law, case by case -/
section Case
variable {κ : K0} {b Ln : Nat} {xs : Nat → Int32} {nm : String} {hh : List (Nat × Nat × Nat × Nat)} {cells slots : Nat} {σ : Nat → Option Kd} {mi : Nat → Nat → Int32} {ml : Nat → Nat → Int64} {x m o i : Nat} {S : SS}
theorem law_21 (hI : LI σ x m o) (hX : XA mi x S) (hA : MA mi m S) (hS : SOK S) (hL : Ln ≤ 2048) (hi : i + 4 ≤ Ln) (hcc : cells + 32 ≤ 601024) (hcs : slots + 440 ≤ 7293034) (kn : KN κ (phiL κ b Ln xs nm hh) σ x m (lwL b x m o i) cells slots) : V κ (phiL κ b Ln xs nm hh) cells slots 1472 (lwL b x m o i) [] (MM σ mi ml) := by
  obtain ⟨hLx, hM, ho, hxm, hmo⟩ := hI
  refine V_aload_n dL_law_1472 rfl rfl ?_
  refine V_hcall (ctX5_mergeCount hLx hX hS) mvX5_mergeCount lkL_206 hLx.1 rfl rfl rfl (Nat.le_of_ble_eq_true rfl) ⟨⟨Nat.le_of_ble_eq_true rfl, Nat.le_of_ble_eq_true rfl⟩, by show cells + 1 ≤ 601024; omega, by show slots + 6 ≤ 7293034; omega⟩ dL_law_1473 (fun _ m1 l1 hX1 hf1 => ?_) (fun j hj => absurd (show 0 = j + 1 from hj) (by omega))
  have hA1 : MA m1 m S := hA.fr hS (fun a j q1 q2 => hf1 a j (by omega))
  refine V_aload_n dL_law_1476 rfl rfl ?_
  refine V_cmR (ctX6_mergeCount hM hA1 hS) mvX6_mergeCount lkL_209 hM.1 rfl rfl rfl (Nat.le_of_ble_eq_true rfl) ⟨⟨Nat.le_of_ble_eq_true rfl, Nat.le_of_ble_eq_true rfl⟩, by show cells + 1 + 0 ≤ 601024; omega, by show slots + 6 + 0 ≤ 7293034; omega⟩ dL_law_1477 (fun m2 hA2 h20 hf2 => ?_)
  have hX2 := hX1.fr (fun a j q1 q2 => hf2 a j (by omega))
  refine V_icmp_eq 2556 dL_law_1480 (by decide) (fun _ => ?_) (fun hne => absurd rfl hne)
  refine V.less9 ?_
  refine V.widen (k := cells + 32) (n := slots + 440) (by omega) (by omega) ?_
  exact kn _ m2 l1 (sk_mergeCount hS) hX2 hA2
theorem law_22 (hI : LI σ x m o) (hX : XA mi x S) (hA : MA mi m S) (hS : SOK S) (hL : Ln ≤ 2048) (hi : i + 4 ≤ Ln) (hcc : cells + 32 ≤ 601024) (hcs : slots + 440 ≤ 7293034) (kn : KN κ (phiL κ b Ln xs nm hh) σ x m (lwL b x m o i) cells slots) : V κ (phiL κ b Ln xs nm hh) cells slots 1485 (lwL b x m o i) [] (MM σ mi ml) := by
  obtain ⟨hLx, hM, ho, hxm, hmo⟩ := hI
  by_cases hz : xs (i + 3) = 0
  · refine V_aload_n dL_law_1485 rfl rfl ?_
    refine V_aload_n dL_law_1486 rfl rfl ?_
    refine V_iload dL_law_1487 rfl ?_
    refine V_iconst (v := nI 1) dL_law_1489 (by decide) ?_
    refine V_iadd dL_law_1490 ?_
    refine V_sld (i + 1) (nI_add i 1) (by omega) hL dL_law_1491 ?_
    refine V_aload_n dL_law_1492 rfl rfl ?_
    refine V_iload dL_law_1493 rfl ?_
    refine V_iconst (v := nI 2) dL_law_1495 (by decide) ?_
    refine V_iadd dL_law_1496 ?_
    refine V_sld (i + 2) (nI_add i 2) (by omega) hL dL_law_1497 ?_
    refine V_aload_n dL_law_1498 rfl rfl ?_
    refine V_iload dL_law_1499 rfl ?_
    refine V_iconst (v := nI 3) dL_law_1501 (by decide) ?_
    refine V_iadd dL_law_1502 ?_
    refine V_sld (i + 3) (nI_add i 3) (by omega) hL dL_law_1503 ?_
    refine V_if_eq 1511 dL_law_1504 (by decide) (fun _ => ?_) (fun hne => absurd hz hne)
    refine V_iconst (v := bI false) dL_law_1511 (by decide) ?_
    refine V_aload_n dL_law_1512 rfl rfl ?_
    refine V_chR (ctL_source (z := false) hLx hX hS ho) mhL_source lkL_210 rfl rfl (Nat.le_of_ble_eq_true rfl) ⟨⟨Nat.le_of_ble_eq_true rfl, Nat.le_of_ble_eq_true rfl⟩, by show cells + 1 ≤ 601024; omega, by show slots + 6 ≤ 7293034; omega⟩ dL_law_1513 (fun m1 l1 hX1 ho1 hf1 => ?_)
    have hA1 : MA m1 m S := hA.fr hS (fun a j q1 q2 => hf1 a j (by omega))
    refine V_istore dL_law_1516 (Nat.le_of_ble_eq_true rfl) ?_
    refine V_aload_n dL_law_1518 rfl rfl ?_
    refine V_aload_n dL_law_1519 rfl rfl ?_
    refine V_iload dL_law_1520 rfl ?_
    refine V_iconst (v := nI 1) dL_law_1522 (by decide) ?_
    refine V_iadd dL_law_1523 ?_
    refine V_sld (i + 1) (nI_add i 1) (by omega) hL dL_law_1524 ?_
    refine V_aload_n dL_law_1525 rfl rfl ?_
    refine V_iload dL_law_1526 rfl ?_
    refine V_iconst (v := nI 2) dL_law_1528 (by decide) ?_
    refine V_iadd dL_law_1529 ?_
    refine V_sld (i + 2) (nI_add i 2) (by omega) hL dL_law_1530 ?_
    refine V_aload_n dL_law_1531 rfl rfl ?_
    refine V_iload dL_law_1532 rfl ?_
    refine V_iconst (v := nI 3) dL_law_1534 (by decide) ?_
    refine V_iadd dL_law_1535 ?_
    refine V_sld (i + 3) (nI_add i 3) (by omega) hL dL_law_1536 ?_
    refine V_if_eq 1544 dL_law_1537 (by decide) (fun _ => ?_) (fun hne => absurd hz hne)
    refine V_iconst (v := bI false) dL_law_1544 (by decide) ?_
    refine V_cmR (ctX6_source (z := false) hM hA1 hS) mvX6_source lkL_213 hM.1 rfl rfl rfl (Nat.le_of_ble_eq_true rfl) ⟨⟨Nat.le_of_ble_eq_true rfl, Nat.le_of_ble_eq_true rfl⟩, by show cells + 1 + 0 ≤ 601024; omega, by show slots + 6 + 0 ≤ 7293034; omega⟩ dL_law_1545 (fun m2 hA2 h20 hf2 => ?_)
    have hX2 := hX1.fr (fun a j q1 q2 => hf2 a j (by omega))
    refine V_istore dL_law_1548 (Nat.le_of_ble_eq_true rfl) ?_
    refine V_aload_n dL_law_1550 rfl rfl ?_
    refine V_cv1 (ctX6_thrown hM h20) mvX6_thrown lkL_138 hM.1 rfl rfl rfl (Nat.le_of_ble_eq_true rfl) ⟨⟨Nat.le_of_ble_eq_true rfl, Nat.le_of_ble_eq_true rfl⟩, by show cells + 1 + 0 ≤ 601024; omega, by show slots + 6 + 0 ≤ 7293034; omega⟩ dL_law_1551 ?_
    refine V_iload dL_law_1554 rfl ?_
    refine V_icmp_eq 1561 dL_law_1556 (by decide) (fun _ => ?_) (fun hne => absurd rfl hne)
    refine V_iload dL_law_1561 rfl ?_
    refine V_if_ne 1578 dL_law_1563 (by decide) (fun _ => ?_) (fun hz0 => ?_)
    · refine V_goto 2556 dL_law_1578 (by decide) ?_
      refine V.less9 ?_
      refine V.widen (k := cells + 32) (n := slots + 440) (by omega) (by omega) ?_
      exact kn _ m2 l1 (sk_source hS) hX2 hA2
    · have h0 := nI_k0 hz0 (Nat.le_trans rk_source (by decide))
      refine V_aload_n dL_law_1566 rfl rfl ?_
      refine V_iconst (v := nI 0) dL_law_1567 (by decide) ?_
      refine V_laldN ho 0 rfl (by decide) (by decide) dL_law_1568 ?_
      refine V_iload dL_law_1569 rfl ?_
      refine V_i2l dL_law_1571 ?_
      refine V_lcmp dL_law_1572 ?_
      refine V_if_eq 1578 dL_law_1573 (by decide) (fun _ => ?_) (fun hne => absurd ((lg_cmp_eq _ _).mpr (ho1 h0)) hne)
      refine V_goto 2556 dL_law_1578 (by decide) ?_
      refine V.less9 ?_
      refine V.widen (k := cells + 32) (n := slots + 440) (by omega) (by omega) ?_
      exact kn _ m2 l1 (sk_source hS) hX2 hA2
  · refine V_aload_n dL_law_1485 rfl rfl ?_
    refine V_aload_n dL_law_1486 rfl rfl ?_
    refine V_iload dL_law_1487 rfl ?_
    refine V_iconst (v := nI 1) dL_law_1489 (by decide) ?_
    refine V_iadd dL_law_1490 ?_
    refine V_sld (i + 1) (nI_add i 1) (by omega) hL dL_law_1491 ?_
    refine V_aload_n dL_law_1492 rfl rfl ?_
    refine V_iload dL_law_1493 rfl ?_
    refine V_iconst (v := nI 2) dL_law_1495 (by decide) ?_
    refine V_iadd dL_law_1496 ?_
    refine V_sld (i + 2) (nI_add i 2) (by omega) hL dL_law_1497 ?_
    refine V_aload_n dL_law_1498 rfl rfl ?_
    refine V_iload dL_law_1499 rfl ?_
    refine V_iconst (v := nI 3) dL_law_1501 (by decide) ?_
    refine V_iadd dL_law_1502 ?_
    refine V_sld (i + 3) (nI_add i 3) (by omega) hL dL_law_1503 ?_
    refine V_if_eq 1511 dL_law_1504 (by decide) (fun hne => absurd hne hz) (fun _ => ?_)
    refine V_iconst (v := bI true) dL_law_1507 (by decide) ?_
    refine V_goto 1512 dL_law_1508 (by decide) ?_
    refine V_aload_n dL_law_1512 rfl rfl ?_
    refine V_chR (ctL_source (z := true) hLx hX hS ho) mhL_source lkL_210 rfl rfl (Nat.le_of_ble_eq_true rfl) ⟨⟨Nat.le_of_ble_eq_true rfl, Nat.le_of_ble_eq_true rfl⟩, by show cells + 1 ≤ 601024; omega, by show slots + 6 ≤ 7293034; omega⟩ dL_law_1513 (fun m1 l1 hX1 ho1 hf1 => ?_)
    have hA1 : MA m1 m S := hA.fr hS (fun a j q1 q2 => hf1 a j (by omega))
    refine V_istore dL_law_1516 (Nat.le_of_ble_eq_true rfl) ?_
    refine V_aload_n dL_law_1518 rfl rfl ?_
    refine V_aload_n dL_law_1519 rfl rfl ?_
    refine V_iload dL_law_1520 rfl ?_
    refine V_iconst (v := nI 1) dL_law_1522 (by decide) ?_
    refine V_iadd dL_law_1523 ?_
    refine V_sld (i + 1) (nI_add i 1) (by omega) hL dL_law_1524 ?_
    refine V_aload_n dL_law_1525 rfl rfl ?_
    refine V_iload dL_law_1526 rfl ?_
    refine V_iconst (v := nI 2) dL_law_1528 (by decide) ?_
    refine V_iadd dL_law_1529 ?_
    refine V_sld (i + 2) (nI_add i 2) (by omega) hL dL_law_1530 ?_
    refine V_aload_n dL_law_1531 rfl rfl ?_
    refine V_iload dL_law_1532 rfl ?_
    refine V_iconst (v := nI 3) dL_law_1534 (by decide) ?_
    refine V_iadd dL_law_1535 ?_
    refine V_sld (i + 3) (nI_add i 3) (by omega) hL dL_law_1536 ?_
    refine V_if_eq 1544 dL_law_1537 (by decide) (fun hne => absurd hne hz) (fun _ => ?_)
    refine V_iconst (v := bI true) dL_law_1540 (by decide) ?_
    refine V_goto 1545 dL_law_1541 (by decide) ?_
    refine V_cmR (ctX6_source (z := true) hM hA1 hS) mvX6_source lkL_213 hM.1 rfl rfl rfl (Nat.le_of_ble_eq_true rfl) ⟨⟨Nat.le_of_ble_eq_true rfl, Nat.le_of_ble_eq_true rfl⟩, by show cells + 1 + 0 ≤ 601024; omega, by show slots + 6 + 0 ≤ 7293034; omega⟩ dL_law_1545 (fun m2 hA2 h20 hf2 => ?_)
    have hX2 := hX1.fr (fun a j q1 q2 => hf2 a j (by omega))
    refine V_istore dL_law_1548 (Nat.le_of_ble_eq_true rfl) ?_
    refine V_aload_n dL_law_1550 rfl rfl ?_
    refine V_cv1 (ctX6_thrown hM h20) mvX6_thrown lkL_138 hM.1 rfl rfl rfl (Nat.le_of_ble_eq_true rfl) ⟨⟨Nat.le_of_ble_eq_true rfl, Nat.le_of_ble_eq_true rfl⟩, by show cells + 1 + 0 ≤ 601024; omega, by show slots + 6 + 0 ≤ 7293034; omega⟩ dL_law_1551 ?_
    refine V_iload dL_law_1554 rfl ?_
    refine V_icmp_eq 1561 dL_law_1556 (by decide) (fun _ => ?_) (fun hne => absurd rfl hne)
    refine V_iload dL_law_1561 rfl ?_
    refine V_if_ne 1578 dL_law_1563 (by decide) (fun _ => ?_) (fun hz0 => ?_)
    · refine V_goto 2556 dL_law_1578 (by decide) ?_
      refine V.less9 ?_
      refine V.widen (k := cells + 32) (n := slots + 440) (by omega) (by omega) ?_
      exact kn _ m2 l1 (sk_source hS) hX2 hA2
    · have h0 := nI_k0 hz0 (Nat.le_trans rk_source (by decide))
      refine V_aload_n dL_law_1566 rfl rfl ?_
      refine V_iconst (v := nI 0) dL_law_1567 (by decide) ?_
      refine V_laldN ho 0 rfl (by decide) (by decide) dL_law_1568 ?_
      refine V_iload dL_law_1569 rfl ?_
      refine V_i2l dL_law_1571 ?_
      refine V_lcmp dL_law_1572 ?_
      refine V_if_eq 1578 dL_law_1573 (by decide) (fun _ => ?_) (fun hne => absurd ((lg_cmp_eq _ _).mpr (ho1 h0)) hne)
      refine V_goto 2556 dL_law_1578 (by decide) ?_
      refine V.less9 ?_
      refine V.widen (k := cells + 32) (n := slots + 440) (by omega) (by omega) ?_
      exact kn _ m2 l1 (sk_source hS) hX2 hA2
theorem law_23 (hI : LI σ x m o) (hX : XA mi x S) (hA : MA mi m S) (hS : SOK S) (hL : Ln ≤ 2048) (hi : i + 4 ≤ Ln) (hcc : cells + 32 ≤ 601024) (hcs : slots + 440 ≤ 7293034) (kn : KN κ (phiL κ b Ln xs nm hh) σ x m (lwL b x m o i) cells slots) : V κ (phiL κ b Ln xs nm hh) cells slots 1581 (lwL b x m o i) [] (MM σ mi ml) := by
  obtain ⟨hLx, hM, ho, hxm, hmo⟩ := hI
  refine V_aload_n dL_law_1581 rfl rfl ?_
  refine V_aload_n dL_law_1582 rfl rfl ?_
  refine V_iload dL_law_1583 rfl ?_
  refine V_iconst (v := nI 1) dL_law_1585 (by decide) ?_
  refine V_iadd dL_law_1586 ?_
  refine V_sld (i + 1) (nI_add i 1) (by omega) hL dL_law_1587 ?_
  refine V_aload_n dL_law_1588 rfl rfl ?_
  refine V_iload dL_law_1589 rfl ?_
  refine V_iconst (v := nI 2) dL_law_1591 (by decide) ?_
  refine V_iadd dL_law_1592 ?_
  refine V_sld (i + 2) (nI_add i 2) (by omega) hL dL_law_1593 ?_
  refine V_aload_n dL_law_1594 rfl rfl ?_
  refine V_chR (ctL_sourceOfUse hLx hX hS ho) mhL_sourceOfUse lkL_214 rfl rfl (Nat.le_of_ble_eq_true rfl) ⟨⟨Nat.le_of_ble_eq_true rfl, Nat.le_of_ble_eq_true rfl⟩, by show cells + 1 ≤ 601024; omega, by show slots + 6 ≤ 7293034; omega⟩ dL_law_1595 (fun m1 l1 hX1 ho1 hf1 => ?_)
  have hA1 : MA m1 m S := hA.fr hS (fun a j q1 q2 => hf1 a j (by omega))
  refine V_istore dL_law_1598 (Nat.le_of_ble_eq_true rfl) ?_
  refine V_aload_n dL_law_1600 rfl rfl ?_
  refine V_aload_n dL_law_1601 rfl rfl ?_
  refine V_iload dL_law_1602 rfl ?_
  refine V_iconst (v := nI 1) dL_law_1604 (by decide) ?_
  refine V_iadd dL_law_1605 ?_
  refine V_sld (i + 1) (nI_add i 1) (by omega) hL dL_law_1606 ?_
  refine V_aload_n dL_law_1607 rfl rfl ?_
  refine V_iload dL_law_1608 rfl ?_
  refine V_iconst (v := nI 2) dL_law_1610 (by decide) ?_
  refine V_iadd dL_law_1611 ?_
  refine V_sld (i + 2) (nI_add i 2) (by omega) hL dL_law_1612 ?_
  refine V_cmR (ctX6_sourceOfUse hM hA1 hS) mvX6_sourceOfUse lkL_216 hM.1 rfl rfl rfl (Nat.le_of_ble_eq_true rfl) ⟨⟨Nat.le_of_ble_eq_true rfl, Nat.le_of_ble_eq_true rfl⟩, by show cells + 1 + 0 ≤ 601024; omega, by show slots + 6 + 0 ≤ 7293034; omega⟩ dL_law_1613 (fun m2 hA2 h20 hf2 => ?_)
  have hX2 := hX1.fr (fun a j q1 q2 => hf2 a j (by omega))
  refine V_istore dL_law_1616 (Nat.le_of_ble_eq_true rfl) ?_
  refine V_aload_n dL_law_1618 rfl rfl ?_
  refine V_cv1 (ctX6_thrown hM h20) mvX6_thrown lkL_138 hM.1 rfl rfl rfl (Nat.le_of_ble_eq_true rfl) ⟨⟨Nat.le_of_ble_eq_true rfl, Nat.le_of_ble_eq_true rfl⟩, by show cells + 1 + 0 ≤ 601024; omega, by show slots + 6 + 0 ≤ 7293034; omega⟩ dL_law_1619 ?_
  refine V_iload dL_law_1622 rfl ?_
  refine V_icmp_eq 1629 dL_law_1624 (by decide) (fun _ => ?_) (fun hne => absurd rfl hne)
  refine V_iload dL_law_1629 rfl ?_
  refine V_if_ne 1646 dL_law_1631 (by decide) (fun _ => ?_) (fun hz0 => ?_)
  · refine V_goto 2556 dL_law_1646 (by decide) ?_
    refine V.less9 ?_
    refine V.widen (k := cells + 32) (n := slots + 440) (by omega) (by omega) ?_
    exact kn _ m2 l1 (sk_sourceOfUse hS) hX2 hA2
  · have h0 := nI_k0 hz0 (Nat.le_trans rk_sourceOfUse (by decide))
    refine V_aload_n dL_law_1634 rfl rfl ?_
    refine V_iconst (v := nI 0) dL_law_1635 (by decide) ?_
    refine V_laldN ho 0 rfl (by decide) (by decide) dL_law_1636 ?_
    refine V_iload dL_law_1637 rfl ?_
    refine V_i2l dL_law_1639 ?_
    refine V_lcmp dL_law_1640 ?_
    refine V_if_eq 1646 dL_law_1641 (by decide) (fun _ => ?_) (fun hne => absurd ((lg_cmp_eq _ _).mpr (ho1 h0)) hne)
    refine V_goto 2556 dL_law_1646 (by decide) ?_
    refine V.less9 ?_
    refine V.widen (k := cells + 32) (n := slots + 440) (by omega) (by omega) ?_
    exact kn _ m2 l1 (sk_sourceOfUse hS) hX2 hA2
theorem law_24 (hI : LI σ x m o) (hX : XA mi x S) (hA : MA mi m S) (hS : SOK S) (hL : Ln ≤ 2048) (hi : i + 4 ≤ Ln) (hcc : cells + 32 ≤ 601024) (hcs : slots + 440 ≤ 7293034) (kn : KN κ (phiL κ b Ln xs nm hh) σ x m (lwL b x m o i) cells slots) : V κ (phiL κ b Ln xs nm hh) cells slots 1649 (lwL b x m o i) [] (MM σ mi ml) := by
  obtain ⟨hLx, hM, ho, hxm, hmo⟩ := hI
  refine V_aload_n dL_law_1649 rfl rfl ?_
  refine V_aload_n dL_law_1650 rfl rfl ?_
  refine V_iload dL_law_1651 rfl ?_
  refine V_iconst (v := nI 1) dL_law_1653 (by decide) ?_
  refine V_iadd dL_law_1654 ?_
  refine V_sld (i + 1) (nI_add i 1) (by omega) hL dL_law_1655 ?_
  refine V_aload_n dL_law_1656 rfl rfl ?_
  refine V_iload dL_law_1657 rfl ?_
  refine V_iconst (v := nI 2) dL_law_1659 (by decide) ?_
  refine V_iadd dL_law_1660 ?_
  refine V_sld (i + 2) (nI_add i 2) (by omega) hL dL_law_1661 ?_
  refine V_aload_n dL_law_1662 rfl rfl ?_
  refine V_iload dL_law_1663 rfl ?_
  refine V_iconst (v := nI 3) dL_law_1665 (by decide) ?_
  refine V_iadd dL_law_1666 ?_
  refine V_sld (i + 3) (nI_add i 3) (by omega) hL dL_law_1667 ?_
  refine V_aload_n dL_law_1668 rfl rfl ?_
  refine V_chR (ctL_operand hLx hX hS ho) mhL_operand lkL_217 rfl rfl (Nat.le_of_ble_eq_true rfl) ⟨⟨Nat.le_of_ble_eq_true rfl, Nat.le_of_ble_eq_true rfl⟩, by show cells + 1 ≤ 601024; omega, by show slots + 6 ≤ 7293034; omega⟩ dL_law_1669 (fun m1 l1 hX1 ho1 hf1 => ?_)
  have hA1 : MA m1 m S := hA.fr hS (fun a j q1 q2 => hf1 a j (by omega))
  refine V_istore dL_law_1672 (Nat.le_of_ble_eq_true rfl) ?_
  refine V_aload_n dL_law_1674 rfl rfl ?_
  refine V_aload_n dL_law_1675 rfl rfl ?_
  refine V_iload dL_law_1676 rfl ?_
  refine V_iconst (v := nI 1) dL_law_1678 (by decide) ?_
  refine V_iadd dL_law_1679 ?_
  refine V_sld (i + 1) (nI_add i 1) (by omega) hL dL_law_1680 ?_
  refine V_aload_n dL_law_1681 rfl rfl ?_
  refine V_iload dL_law_1682 rfl ?_
  refine V_iconst (v := nI 2) dL_law_1684 (by decide) ?_
  refine V_iadd dL_law_1685 ?_
  refine V_sld (i + 2) (nI_add i 2) (by omega) hL dL_law_1686 ?_
  refine V_aload_n dL_law_1687 rfl rfl ?_
  refine V_iload dL_law_1688 rfl ?_
  refine V_iconst (v := nI 3) dL_law_1690 (by decide) ?_
  refine V_iadd dL_law_1691 ?_
  refine V_sld (i + 3) (nI_add i 3) (by omega) hL dL_law_1692 ?_
  refine V_cmR (ctX6_operand hM hA1 hS) mvX6_operand lkL_219 hM.1 rfl rfl rfl (Nat.le_of_ble_eq_true rfl) ⟨⟨Nat.le_of_ble_eq_true rfl, Nat.le_of_ble_eq_true rfl⟩, by show cells + 1 + 0 ≤ 601024; omega, by show slots + 6 + 0 ≤ 7293034; omega⟩ dL_law_1693 (fun m2 hA2 h20 hf2 => ?_)
  have hX2 := hX1.fr (fun a j q1 q2 => hf2 a j (by omega))
  refine V_istore dL_law_1696 (Nat.le_of_ble_eq_true rfl) ?_
  refine V_aload_n dL_law_1698 rfl rfl ?_
  refine V_cv1 (ctX6_thrown hM h20) mvX6_thrown lkL_138 hM.1 rfl rfl rfl (Nat.le_of_ble_eq_true rfl) ⟨⟨Nat.le_of_ble_eq_true rfl, Nat.le_of_ble_eq_true rfl⟩, by show cells + 1 + 0 ≤ 601024; omega, by show slots + 6 + 0 ≤ 7293034; omega⟩ dL_law_1699 ?_
  refine V_iload dL_law_1702 rfl ?_
  refine V_icmp_eq 1709 dL_law_1704 (by decide) (fun _ => ?_) (fun hne => absurd rfl hne)
  refine V_iload dL_law_1709 rfl ?_
  refine V_if_ne 1726 dL_law_1711 (by decide) (fun _ => ?_) (fun hz0 => ?_)
  · refine V_goto 2556 dL_law_1726 (by decide) ?_
    refine V.less9 ?_
    refine V.widen (k := cells + 32) (n := slots + 440) (by omega) (by omega) ?_
    exact kn _ m2 l1 (sk_operand hS) hX2 hA2
  · have h0 := nI_k0 hz0 (Nat.le_trans rk_operand (by decide))
    refine V_aload_n dL_law_1714 rfl rfl ?_
    refine V_iconst (v := nI 0) dL_law_1715 (by decide) ?_
    refine V_laldN ho 0 rfl (by decide) (by decide) dL_law_1716 ?_
    refine V_iload dL_law_1717 rfl ?_
    refine V_i2l dL_law_1719 ?_
    refine V_lcmp dL_law_1720 ?_
    refine V_if_eq 1726 dL_law_1721 (by decide) (fun _ => ?_) (fun hne => absurd ((lg_cmp_eq _ _).mpr (ho1 h0)) hne)
    refine V_goto 2556 dL_law_1726 (by decide) ?_
    refine V.less9 ?_
    refine V.widen (k := cells + 32) (n := slots + 440) (by omega) (by omega) ?_
    exact kn _ m2 l1 (sk_operand hS) hX2 hA2
theorem law_25 (hI : LI σ x m o) (hX : XA mi x S) (hA : MA mi m S) (hS : SOK S) (hL : Ln ≤ 2048) (hi : i + 4 ≤ Ln) (hcc : cells + 32 ≤ 601024) (hcs : slots + 440 ≤ 7293034) (kn : KN κ (phiL κ b Ln xs nm hh) σ x m (lwL b x m o i) cells slots) : V κ (phiL κ b Ln xs nm hh) cells slots 1729 (lwL b x m o i) [] (MM σ mi ml) := by
  obtain ⟨hLx, hM, ho, hxm, hmo⟩ := hI
  refine V_aload_n dL_law_1729 rfl rfl ?_
  refine V_aload_n dL_law_1730 rfl rfl ?_
  refine V_iload dL_law_1731 rfl ?_
  refine V_iconst (v := nI 1) dL_law_1733 (by decide) ?_
  refine V_iadd dL_law_1734 ?_
  refine V_sld (i + 1) (nI_add i 1) (by omega) hL dL_law_1735 ?_
  refine V_aload_n dL_law_1736 rfl rfl ?_
  refine V_iload dL_law_1737 rfl ?_
  refine V_iconst (v := nI 2) dL_law_1739 (by decide) ?_
  refine V_iadd dL_law_1740 ?_
  refine V_sld (i + 2) (nI_add i 2) (by omega) hL dL_law_1741 ?_
  refine V_aload_n dL_law_1742 rfl rfl ?_
  refine V_chR (ctL_differentOperands hLx hX hS ho) mhL_differentOperands lkL_220 rfl rfl (Nat.le_of_ble_eq_true rfl) ⟨⟨Nat.le_of_ble_eq_true rfl, Nat.le_of_ble_eq_true rfl⟩, by show cells + 1 ≤ 601024; omega, by show slots + 6 ≤ 7293034; omega⟩ dL_law_1743 (fun m1 l1 hX1 ho1 hf1 => ?_)
  have hA1 : MA m1 m S := hA.fr hS (fun a j q1 q2 => hf1 a j (by omega))
  refine V_istore dL_law_1746 (Nat.le_of_ble_eq_true rfl) ?_
  refine V_aload_n dL_law_1748 rfl rfl ?_
  refine V_aload_n dL_law_1749 rfl rfl ?_
  refine V_iload dL_law_1750 rfl ?_
  refine V_iconst (v := nI 1) dL_law_1752 (by decide) ?_
  refine V_iadd dL_law_1753 ?_
  refine V_sld (i + 1) (nI_add i 1) (by omega) hL dL_law_1754 ?_
  refine V_aload_n dL_law_1755 rfl rfl ?_
  refine V_iload dL_law_1756 rfl ?_
  refine V_iconst (v := nI 2) dL_law_1758 (by decide) ?_
  refine V_iadd dL_law_1759 ?_
  refine V_sld (i + 2) (nI_add i 2) (by omega) hL dL_law_1760 ?_
  refine V_cmR (ctX6_differentOperands hM hA1 hS) mvX6_differentOperands lkL_222 hM.1 rfl rfl rfl (Nat.le_of_ble_eq_true rfl) ⟨⟨Nat.le_of_ble_eq_true rfl, Nat.le_of_ble_eq_true rfl⟩, by show cells + 1 + 0 ≤ 601024; omega, by show slots + 6 + 0 ≤ 7293034; omega⟩ dL_law_1761 (fun m2 hA2 h20 hf2 => ?_)
  have hX2 := hX1.fr (fun a j q1 q2 => hf2 a j (by omega))
  refine V_istore dL_law_1764 (Nat.le_of_ble_eq_true rfl) ?_
  refine V_aload_n dL_law_1766 rfl rfl ?_
  refine V_cv1 (ctX6_thrown hM h20) mvX6_thrown lkL_138 hM.1 rfl rfl rfl (Nat.le_of_ble_eq_true rfl) ⟨⟨Nat.le_of_ble_eq_true rfl, Nat.le_of_ble_eq_true rfl⟩, by show cells + 1 + 0 ≤ 601024; omega, by show slots + 6 + 0 ≤ 7293034; omega⟩ dL_law_1767 ?_
  refine V_iload dL_law_1770 rfl ?_
  refine V_icmp_eq 1777 dL_law_1772 (by decide) (fun _ => ?_) (fun hne => absurd rfl hne)
  refine V_iload dL_law_1777 rfl ?_
  refine V_if_ne 1794 dL_law_1779 (by decide) (fun _ => ?_) (fun hz0 => ?_)
  · refine V_goto 2556 dL_law_1794 (by decide) ?_
    refine V.less9 ?_
    refine V.widen (k := cells + 32) (n := slots + 440) (by omega) (by omega) ?_
    exact kn _ m2 l1 (sk_differentOperands hS) hX2 hA2
  · have h0 := nI_k0 hz0 (Nat.le_trans rk_differentOperands (by decide))
    refine V_aload_n dL_law_1782 rfl rfl ?_
    refine V_iconst (v := nI 0) dL_law_1783 (by decide) ?_
    refine V_laldN ho 0 rfl (by decide) (by decide) dL_law_1784 ?_
    refine V_iload dL_law_1785 rfl ?_
    refine V_i2l dL_law_1787 ?_
    refine V_lcmp dL_law_1788 ?_
    refine V_if_eq 1794 dL_law_1789 (by decide) (fun _ => ?_) (fun hne => absurd ((lg_cmp_eq _ _).mpr (ho1 h0)) hne)
    refine V_goto 2556 dL_law_1794 (by decide) ?_
    refine V.less9 ?_
    refine V.widen (k := cells + 32) (n := slots + 440) (by omega) (by omega) ?_
    exact kn _ m2 l1 (sk_differentOperands hS) hX2 hA2
theorem law_26 (hI : LI σ x m o) (hX : XA mi x S) (hA : MA mi m S) (hS : SOK S) (hL : Ln ≤ 2048) (hi : i + 4 ≤ Ln) (hcc : cells + 32 ≤ 601024) (hcs : slots + 440 ≤ 7293034) (kn : KN κ (phiL κ b Ln xs nm hh) σ x m (lwL b x m o i) cells slots) : V κ (phiL κ b Ln xs nm hh) cells slots 1797 (lwL b x m o i) [] (MM σ mi ml) := by
  obtain ⟨hLx, hM, ho, hxm, hmo⟩ := hI
  refine V_aload_n dL_law_1797 rfl rfl ?_
  refine V_aload_n dL_law_1798 rfl rfl ?_
  refine V_iload dL_law_1799 rfl ?_
  refine V_iconst (v := nI 1) dL_law_1801 (by decide) ?_
  refine V_iadd dL_law_1802 ?_
  refine V_sld (i + 1) (nI_add i 1) (by omega) hL dL_law_1803 ?_
  refine V_aload_n dL_law_1804 rfl rfl ?_
  refine V_iload dL_law_1805 rfl ?_
  refine V_iconst (v := nI 2) dL_law_1807 (by decide) ?_
  refine V_iadd dL_law_1808 ?_
  refine V_sld (i + 2) (nI_add i 2) (by omega) hL dL_law_1809 ?_
  refine V_aload_n dL_law_1810 rfl rfl ?_
  refine V_chR (ctL_usesOf hLx hX hS ho) mhL_usesOf lkL_223 rfl rfl (Nat.le_of_ble_eq_true rfl) ⟨⟨Nat.le_of_ble_eq_true rfl, Nat.le_of_ble_eq_true rfl⟩, by show cells + 1 ≤ 601024; omega, by show slots + 6 ≤ 7293034; omega⟩ dL_law_1811 (fun m1 l1 hX1 ho1 hf1 => ?_)
  have hA1 : MA m1 m S := hA.fr hS (fun a j q1 q2 => hf1 a j (by omega))
  refine V_istore dL_law_1814 (Nat.le_of_ble_eq_true rfl) ?_
  refine V_aload_n dL_law_1816 rfl rfl ?_
  refine V_aload_n dL_law_1817 rfl rfl ?_
  refine V_iload dL_law_1818 rfl ?_
  refine V_iconst (v := nI 1) dL_law_1820 (by decide) ?_
  refine V_iadd dL_law_1821 ?_
  refine V_sld (i + 1) (nI_add i 1) (by omega) hL dL_law_1822 ?_
  refine V_aload_n dL_law_1823 rfl rfl ?_
  refine V_iload dL_law_1824 rfl ?_
  refine V_iconst (v := nI 2) dL_law_1826 (by decide) ?_
  refine V_iadd dL_law_1827 ?_
  refine V_sld (i + 2) (nI_add i 2) (by omega) hL dL_law_1828 ?_
  refine V_cmR (ctX6_usesOf hM hA1 hS) mvX6_usesOf lkL_225 hM.1 rfl rfl rfl (Nat.le_of_ble_eq_true rfl) ⟨⟨Nat.le_of_ble_eq_true rfl, Nat.le_of_ble_eq_true rfl⟩, by show cells + 1 + 0 ≤ 601024; omega, by show slots + 6 + 0 ≤ 7293034; omega⟩ dL_law_1829 (fun m2 hA2 h20 hf2 => ?_)
  have hX2 := hX1.fr (fun a j q1 q2 => hf2 a j (by omega))
  refine V_istore dL_law_1832 (Nat.le_of_ble_eq_true rfl) ?_
  refine V_aload_n dL_law_1834 rfl rfl ?_
  refine V_cv1 (ctX6_thrown hM h20) mvX6_thrown lkL_138 hM.1 rfl rfl rfl (Nat.le_of_ble_eq_true rfl) ⟨⟨Nat.le_of_ble_eq_true rfl, Nat.le_of_ble_eq_true rfl⟩, by show cells + 1 + 0 ≤ 601024; omega, by show slots + 6 + 0 ≤ 7293034; omega⟩ dL_law_1835 ?_
  refine V_iload dL_law_1838 rfl ?_
  refine V_icmp_eq 1845 dL_law_1840 (by decide) (fun _ => ?_) (fun hne => absurd rfl hne)
  refine V_iload dL_law_1845 rfl ?_
  refine V_if_ne 1862 dL_law_1847 (by decide) (fun _ => ?_) (fun hz0 => ?_)
  · refine V_goto 2556 dL_law_1862 (by decide) ?_
    refine V.less9 ?_
    refine V.widen (k := cells + 32) (n := slots + 440) (by omega) (by omega) ?_
    exact kn _ m2 l1 (sk_usesOf hS) hX2 hA2
  · have h0 := nI_k0 hz0 (Nat.le_trans rk_usesOf (by decide))
    refine V_aload_n dL_law_1850 rfl rfl ?_
    refine V_iconst (v := nI 0) dL_law_1851 (by decide) ?_
    refine V_laldN ho 0 rfl (by decide) (by decide) dL_law_1852 ?_
    refine V_iload dL_law_1853 rfl ?_
    refine V_i2l dL_law_1855 ?_
    refine V_lcmp dL_law_1856 ?_
    refine V_if_eq 1862 dL_law_1857 (by decide) (fun _ => ?_) (fun hne => absurd ((lg_cmp_eq _ _).mpr (ho1 h0)) hne)
    refine V_goto 2556 dL_law_1862 (by decide) ?_
    refine V.less9 ?_
    refine V.widen (k := cells + 32) (n := slots + 440) (by omega) (by omega) ?_
    exact kn _ m2 l1 (sk_usesOf hS) hX2 hA2
theorem law_27 (hI : LI σ x m o) (hX : XA mi x S) (hA : MA mi m S) (hS : SOK S) (hL : Ln ≤ 2048) (hi : i + 4 ≤ Ln) (hcc : cells + 32 ≤ 601024) (hcs : slots + 440 ≤ 7293034) (kn : KN κ (phiL κ b Ln xs nm hh) σ x m (lwL b x m o i) cells slots) : V κ (phiL κ b Ln xs nm hh) cells slots 1865 (lwL b x m o i) [] (MM σ mi ml) := by
  obtain ⟨hLx, hM, ho, hxm, hmo⟩ := hI
  refine V_aload_n dL_law_1865 rfl rfl ?_
  refine V_hcall (ctX5_unneeded hLx hX hS) mvX5_unneeded lkL_226 hLx.1 rfl rfl rfl (Nat.le_of_ble_eq_true rfl) ⟨⟨Nat.le_of_ble_eq_true rfl, Nat.le_of_ble_eq_true rfl⟩, by show cells + 1 ≤ 601024; omega, by show slots + 6 ≤ 7293034; omega⟩ dL_law_1866 (fun _ m1 l1 hX1 hf1 => ?_) (fun j hj => absurd (show 0 = j + 1 from hj) (by omega))
  have hA1 : MA m1 m S := hA.fr hS (fun a j q1 q2 => hf1 a j (by omega))
  refine V_aload_n dL_law_1869 rfl rfl ?_
  refine V_cmR (ctX6_unneeded hM hA1 hS) mvX6_unneeded lkL_229 hM.1 rfl rfl rfl (Nat.le_of_ble_eq_true rfl) ⟨⟨Nat.le_of_ble_eq_true rfl, Nat.le_of_ble_eq_true rfl⟩, by show cells + 1 + 0 ≤ 601024; omega, by show slots + 6 + 0 ≤ 7293034; omega⟩ dL_law_1870 (fun m2 hA2 h20 hf2 => ?_)
  have hX2 := hX1.fr (fun a j q1 q2 => hf2 a j (by omega))
  refine V_icmp_eq 2556 dL_law_1873 (by decide) (fun _ => ?_) (fun hne => absurd rfl hne)
  refine V.less9 ?_
  refine V.widen (k := cells + 32) (n := slots + 440) (by omega) (by omega) ?_
  exact kn _ m2 l1 (sk_unneeded hS) hX2 hA2
theorem law_28 (hI : LI σ x m o) (hX : XA mi x S) (hA : MA mi m S) (hS : SOK S) (hL : Ln ≤ 2048) (hi : i + 4 ≤ Ln) (hcc : cells + 32 ≤ 601024) (hcs : slots + 440 ≤ 7293034) (kn : KN κ (phiL κ b Ln xs nm hh) σ x m (lwL b x m o i) cells slots) : V κ (phiL κ b Ln xs nm hh) cells slots 1878 (lwL b x m o i) [] (MM σ mi ml) := by
  obtain ⟨hLx, hM, ho, hxm, hmo⟩ := hI
  refine V_aload_n dL_law_1878 rfl rfl ?_
  refine V_aload_n dL_law_1879 rfl rfl ?_
  refine V_iload dL_law_1880 rfl ?_
  refine V_iconst (v := nI 1) dL_law_1882 (by decide) ?_
  refine V_iadd dL_law_1883 ?_
  refine V_sld (i + 1) (nI_add i 1) (by omega) hL dL_law_1884 ?_
  refine V_aload_n dL_law_1885 rfl rfl ?_
  refine V_iload dL_law_1886 rfl ?_
  refine V_iconst (v := nI 2) dL_law_1888 (by decide) ?_
  refine V_iadd dL_law_1889 ?_
  refine V_sld (i + 2) (nI_add i 2) (by omega) hL dL_law_1890 ?_
  refine V_aload_n dL_law_1891 rfl rfl ?_
  refine V_chR (ctL_reachingCount hLx hX hS ho) mhL_reachingCount lkL_230 rfl rfl (Nat.le_of_ble_eq_true rfl) ⟨⟨Nat.le_of_ble_eq_true rfl, Nat.le_of_ble_eq_true rfl⟩, by show cells + 1 ≤ 601024; omega, by show slots + 6 ≤ 7293034; omega⟩ dL_law_1892 (fun m1 l1 hX1 ho1 hf1 => ?_)
  have hA1 : MA m1 m S := hA.fr hS (fun a j q1 q2 => hf1 a j (by omega))
  refine V_istore dL_law_1895 (Nat.le_of_ble_eq_true rfl) ?_
  refine V_aload_n dL_law_1897 rfl rfl ?_
  refine V_aload_n dL_law_1898 rfl rfl ?_
  refine V_iload dL_law_1899 rfl ?_
  refine V_iconst (v := nI 1) dL_law_1901 (by decide) ?_
  refine V_iadd dL_law_1902 ?_
  refine V_sld (i + 1) (nI_add i 1) (by omega) hL dL_law_1903 ?_
  refine V_aload_n dL_law_1904 rfl rfl ?_
  refine V_iload dL_law_1905 rfl ?_
  refine V_iconst (v := nI 2) dL_law_1907 (by decide) ?_
  refine V_iadd dL_law_1908 ?_
  refine V_sld (i + 2) (nI_add i 2) (by omega) hL dL_law_1909 ?_
  refine V_cmR (ctX6_reachingCount hM hA1 hS) mvX6_reachingCount lkL_232 hM.1 rfl rfl rfl (Nat.le_of_ble_eq_true rfl) ⟨⟨Nat.le_of_ble_eq_true rfl, Nat.le_of_ble_eq_true rfl⟩, by show cells + 1 + 0 ≤ 601024; omega, by show slots + 6 + 0 ≤ 7293034; omega⟩ dL_law_1910 (fun m2 hA2 h20 hf2 => ?_)
  have hX2 := hX1.fr (fun a j q1 q2 => hf2 a j (by omega))
  refine V_istore dL_law_1913 (Nat.le_of_ble_eq_true rfl) ?_
  refine V_aload_n dL_law_1915 rfl rfl ?_
  refine V_cv1 (ctX6_thrown hM h20) mvX6_thrown lkL_138 hM.1 rfl rfl rfl (Nat.le_of_ble_eq_true rfl) ⟨⟨Nat.le_of_ble_eq_true rfl, Nat.le_of_ble_eq_true rfl⟩, by show cells + 1 + 0 ≤ 601024; omega, by show slots + 6 + 0 ≤ 7293034; omega⟩ dL_law_1916 ?_
  refine V_iload dL_law_1919 rfl ?_
  refine V_icmp_eq 1926 dL_law_1921 (by decide) (fun _ => ?_) (fun hne => absurd rfl hne)
  refine V_iload dL_law_1926 rfl ?_
  refine V_if_ne 1943 dL_law_1928 (by decide) (fun _ => ?_) (fun hz0 => ?_)
  · refine V_goto 2556 dL_law_1943 (by decide) ?_
    refine V.less9 ?_
    refine V.widen (k := cells + 32) (n := slots + 440) (by omega) (by omega) ?_
    exact kn _ m2 l1 (sk_reachingCount hS) hX2 hA2
  · have h0 := nI_k0 hz0 (Nat.le_trans rk_reachingCount (by decide))
    refine V_aload_n dL_law_1931 rfl rfl ?_
    refine V_iconst (v := nI 0) dL_law_1932 (by decide) ?_
    refine V_laldN ho 0 rfl (by decide) (by decide) dL_law_1933 ?_
    refine V_iload dL_law_1934 rfl ?_
    refine V_i2l dL_law_1936 ?_
    refine V_lcmp dL_law_1937 ?_
    refine V_if_eq 1943 dL_law_1938 (by decide) (fun _ => ?_) (fun hne => absurd ((lg_cmp_eq _ _).mpr (ho1 h0)) hne)
    refine V_goto 2556 dL_law_1943 (by decide) ?_
    refine V.less9 ?_
    refine V.widen (k := cells + 32) (n := slots + 440) (by omega) (by omega) ?_
    exact kn _ m2 l1 (sk_reachingCount hS) hX2 hA2
theorem law_29 (hI : LI σ x m o) (hX : XA mi x S) (hA : MA mi m S) (hS : SOK S) (hL : Ln ≤ 2048) (hi : i + 4 ≤ Ln) (hcc : cells + 32 ≤ 601024) (hcs : slots + 440 ≤ 7293034) (kn : KN κ (phiL κ b Ln xs nm hh) σ x m (lwL b x m o i) cells slots) : V κ (phiL κ b Ln xs nm hh) cells slots 1946 (lwL b x m o i) [] (MM σ mi ml) := by
  obtain ⟨hLx, hM, ho, hxm, hmo⟩ := hI
  refine V_aload_n dL_law_1946 rfl rfl ?_
  refine V_aload_n dL_law_1947 rfl rfl ?_
  refine V_iload dL_law_1948 rfl ?_
  refine V_iconst (v := nI 1) dL_law_1950 (by decide) ?_
  refine V_iadd dL_law_1951 ?_
  refine V_sld (i + 1) (nI_add i 1) (by omega) hL dL_law_1952 ?_
  refine V_aload_n dL_law_1953 rfl rfl ?_
  refine V_iload dL_law_1954 rfl ?_
  refine V_iconst (v := nI 2) dL_law_1956 (by decide) ?_
  refine V_iadd dL_law_1957 ?_
  refine V_sld (i + 2) (nI_add i 2) (by omega) hL dL_law_1958 ?_
  refine V_aload_n dL_law_1959 rfl rfl ?_
  refine V_iload dL_law_1960 rfl ?_
  refine V_iconst (v := nI 3) dL_law_1962 (by decide) ?_
  refine V_iadd dL_law_1963 ?_
  refine V_sld (i + 3) (nI_add i 3) (by omega) hL dL_law_1964 ?_
  refine V_aload_n dL_law_1965 rfl rfl ?_
  refine V_chR (ctL_reaching hLx hX hS ho) mhL_reaching lkL_233 rfl rfl (Nat.le_of_ble_eq_true rfl) ⟨⟨Nat.le_of_ble_eq_true rfl, Nat.le_of_ble_eq_true rfl⟩, by show cells + 1 ≤ 601024; omega, by show slots + 6 ≤ 7293034; omega⟩ dL_law_1966 (fun m1 l1 hX1 ho1 hf1 => ?_)
  have hA1 : MA m1 m S := hA.fr hS (fun a j q1 q2 => hf1 a j (by omega))
  refine V_istore dL_law_1969 (Nat.le_of_ble_eq_true rfl) ?_
  refine V_aload_n dL_law_1971 rfl rfl ?_
  refine V_aload_n dL_law_1972 rfl rfl ?_
  refine V_iload dL_law_1973 rfl ?_
  refine V_iconst (v := nI 1) dL_law_1975 (by decide) ?_
  refine V_iadd dL_law_1976 ?_
  refine V_sld (i + 1) (nI_add i 1) (by omega) hL dL_law_1977 ?_
  refine V_aload_n dL_law_1978 rfl rfl ?_
  refine V_iload dL_law_1979 rfl ?_
  refine V_iconst (v := nI 2) dL_law_1981 (by decide) ?_
  refine V_iadd dL_law_1982 ?_
  refine V_sld (i + 2) (nI_add i 2) (by omega) hL dL_law_1983 ?_
  refine V_aload_n dL_law_1984 rfl rfl ?_
  refine V_iload dL_law_1985 rfl ?_
  refine V_iconst (v := nI 3) dL_law_1987 (by decide) ?_
  refine V_iadd dL_law_1988 ?_
  refine V_sld (i + 3) (nI_add i 3) (by omega) hL dL_law_1989 ?_
  refine V_cmR (ctX6_reaching hM hA1 hS) mvX6_reaching lkL_235 hM.1 rfl rfl rfl (Nat.le_of_ble_eq_true rfl) ⟨⟨Nat.le_of_ble_eq_true rfl, Nat.le_of_ble_eq_true rfl⟩, by show cells + 1 + 0 ≤ 601024; omega, by show slots + 6 + 0 ≤ 7293034; omega⟩ dL_law_1990 (fun m2 hA2 h20 hf2 => ?_)
  have hX2 := hX1.fr (fun a j q1 q2 => hf2 a j (by omega))
  refine V_istore dL_law_1993 (Nat.le_of_ble_eq_true rfl) ?_
  refine V_aload_n dL_law_1995 rfl rfl ?_
  refine V_cv1 (ctX6_thrown hM h20) mvX6_thrown lkL_138 hM.1 rfl rfl rfl (Nat.le_of_ble_eq_true rfl) ⟨⟨Nat.le_of_ble_eq_true rfl, Nat.le_of_ble_eq_true rfl⟩, by show cells + 1 + 0 ≤ 601024; omega, by show slots + 6 + 0 ≤ 7293034; omega⟩ dL_law_1996 ?_
  refine V_iload dL_law_1999 rfl ?_
  refine V_icmp_eq 2006 dL_law_2001 (by decide) (fun _ => ?_) (fun hne => absurd rfl hne)
  refine V_iload dL_law_2006 rfl ?_
  refine V_if_ne 2023 dL_law_2008 (by decide) (fun _ => ?_) (fun hz0 => ?_)
  · refine V_goto 2556 dL_law_2023 (by decide) ?_
    refine V.less9 ?_
    refine V.widen (k := cells + 32) (n := slots + 440) (by omega) (by omega) ?_
    exact kn _ m2 l1 (sk_reaching hS) hX2 hA2
  · have h0 := nI_k0 hz0 (Nat.le_trans rk_reaching (by decide))
    refine V_aload_n dL_law_2011 rfl rfl ?_
    refine V_iconst (v := nI 0) dL_law_2012 (by decide) ?_
    refine V_laldN ho 0 rfl (by decide) (by decide) dL_law_2013 ?_
    refine V_iload dL_law_2014 rfl ?_
    refine V_i2l dL_law_2016 ?_
    refine V_lcmp dL_law_2017 ?_
    refine V_if_eq 2023 dL_law_2018 (by decide) (fun _ => ?_) (fun hne => absurd ((lg_cmp_eq _ _).mpr (ho1 h0)) hne)
    refine V_goto 2556 dL_law_2023 (by decide) ?_
    refine V.less9 ?_
    refine V.widen (k := cells + 32) (n := slots + 440) (by omega) (by omega) ?_
    exact kn _ m2 l1 (sk_reaching hS) hX2 hA2
theorem law_30 (hI : LI σ x m o) (hX : XA mi x S) (hA : MA mi m S) (hS : SOK S) (hL : Ln ≤ 2048) (hi : i + 4 ≤ Ln) (hcc : cells + 32 ≤ 601024) (hcs : slots + 440 ≤ 7293034) (kn : KN κ (phiL κ b Ln xs nm hh) σ x m (lwL b x m o i) cells slots) : V κ (phiL κ b Ln xs nm hh) cells slots 2026 (lwL b x m o i) [] (MM σ mi ml) := by
  obtain ⟨hLx, hM, ho, hxm, hmo⟩ := hI
  refine V_aload_n dL_law_2026 rfl rfl ?_
  refine V_aload_n dL_law_2027 rfl rfl ?_
  refine V_iload dL_law_2028 rfl ?_
  refine V_iconst (v := nI 1) dL_law_2030 (by decide) ?_
  refine V_iadd dL_law_2031 ?_
  refine V_sld (i + 1) (nI_add i 1) (by omega) hL dL_law_2032 ?_
  refine V_aload_n dL_law_2033 rfl rfl ?_
  refine V_iload dL_law_2034 rfl ?_
  refine V_iconst (v := nI 2) dL_law_2036 (by decide) ?_
  refine V_iadd dL_law_2037 ?_
  refine V_sld (i + 2) (nI_add i 2) (by omega) hL dL_law_2038 ?_
  refine V_aload_n dL_law_2039 rfl rfl ?_
  refine V_chR (ctL_isInitialReaching hLx hX hS ho) mhL_isInitialReaching lkL_236 rfl rfl (Nat.le_of_ble_eq_true rfl) ⟨⟨Nat.le_of_ble_eq_true rfl, Nat.le_of_ble_eq_true rfl⟩, by show cells + 1 ≤ 601024; omega, by show slots + 6 ≤ 7293034; omega⟩ dL_law_2040 (fun m1 l1 hX1 ho1 hf1 => ?_)
  have hA1 : MA m1 m S := hA.fr hS (fun a j q1 q2 => hf1 a j (by omega))
  refine V_istore dL_law_2043 (Nat.le_of_ble_eq_true rfl) ?_
  refine V_aload_n dL_law_2045 rfl rfl ?_
  refine V_aload_n dL_law_2046 rfl rfl ?_
  refine V_iload dL_law_2047 rfl ?_
  refine V_iconst (v := nI 1) dL_law_2049 (by decide) ?_
  refine V_iadd dL_law_2050 ?_
  refine V_sld (i + 1) (nI_add i 1) (by omega) hL dL_law_2051 ?_
  refine V_aload_n dL_law_2052 rfl rfl ?_
  refine V_iload dL_law_2053 rfl ?_
  refine V_iconst (v := nI 2) dL_law_2055 (by decide) ?_
  refine V_iadd dL_law_2056 ?_
  refine V_sld (i + 2) (nI_add i 2) (by omega) hL dL_law_2057 ?_
  refine V_cmR (ctX6_isInitialReaching hM hA1 hS) mvX6_isInitialReaching lkL_238 hM.1 rfl rfl rfl (Nat.le_of_ble_eq_true rfl) ⟨⟨Nat.le_of_ble_eq_true rfl, Nat.le_of_ble_eq_true rfl⟩, by show cells + 1 + 0 ≤ 601024; omega, by show slots + 6 + 0 ≤ 7293034; omega⟩ dL_law_2058 (fun m2 hA2 h20 hf2 => ?_)
  have hX2 := hX1.fr (fun a j q1 q2 => hf2 a j (by omega))
  refine V_istore dL_law_2061 (Nat.le_of_ble_eq_true rfl) ?_
  refine V_aload_n dL_law_2063 rfl rfl ?_
  refine V_cv1 (ctX6_thrown hM h20) mvX6_thrown lkL_138 hM.1 rfl rfl rfl (Nat.le_of_ble_eq_true rfl) ⟨⟨Nat.le_of_ble_eq_true rfl, Nat.le_of_ble_eq_true rfl⟩, by show cells + 1 + 0 ≤ 601024; omega, by show slots + 6 + 0 ≤ 7293034; omega⟩ dL_law_2064 ?_
  refine V_iload dL_law_2067 rfl ?_
  refine V_icmp_eq 2074 dL_law_2069 (by decide) (fun _ => ?_) (fun hne => absurd rfl hne)
  refine V_iload dL_law_2074 rfl ?_
  refine V_if_ne 2098 dL_law_2076 (by decide) (fun _ => ?_) (fun hz0 => ?_)
  · refine V_goto 2556 dL_law_2098 (by decide) ?_
    refine V.less9 ?_
    refine V.widen (k := cells + 32) (n := slots + 440) (by omega) (by omega) ?_
    exact kn _ m2 l1 (sk_isInitialReaching hS) hX2 hA2
  · have h0 := nI_k0 hz0 (Nat.le_trans rk_isInitialReaching (by decide))
    refine V_aload_n dL_law_2079 rfl rfl ?_
    refine V_iconst (v := nI 0) dL_law_2080 (by decide) ?_
    refine V_laldN ho 0 rfl (by decide) (by decide) dL_law_2081 ?_
    refine V_iload dL_law_2082 rfl ?_
    refine V_if_eq 2091 dL_law_2084 (by decide) (fun hv => ?_) (fun hv => ?_)
    · refine V_lconst (v := 0) dL_law_2091 (by decide) ?_
      refine V_lcmp dL_law_2092 ?_
      refine V_if_eq 2098 dL_law_2093 (by decide) (fun _ => ?_) (fun hne => absurd ((lg_cmp_eq _ _).mpr ((ho1 h0).trans (if_pos hv))) hne)
      refine V_goto 2556 dL_law_2098 (by decide) ?_
      refine V.less9 ?_
      refine V.widen (k := cells + 32) (n := slots + 440) (by omega) (by omega) ?_
      exact kn _ m2 l1 (sk_isInitialReaching hS) hX2 hA2
    · refine V_lconst (v := 1) dL_law_2087 (by decide) ?_
      refine V_goto 2092 dL_law_2088 (by decide) ?_
      refine V_lcmp dL_law_2092 ?_
      refine V_if_eq 2098 dL_law_2093 (by decide) (fun _ => ?_) (fun hne => absurd ((lg_cmp_eq _ _).mpr ((ho1 h0).trans (if_neg hv))) hne)
      refine V_goto 2556 dL_law_2098 (by decide) ?_
      refine V.less9 ?_
      refine V.widen (k := cells + 32) (n := slots + 440) (by omega) (by omega) ?_
      exact kn _ m2 l1 (sk_isInitialReaching hS) hX2 hA2
end Case

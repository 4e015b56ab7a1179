/-! BLOCKS of the law -/
set_option maxHeartbeats 4000000 in
set_option maxRecDepth 100000 in
theorem lb_16 {F : jF} {X : jX} {L : Nat} {xs : Nat → Int32} (hF : jOk F X RL cL_law 10 (some .boolean) 20) (hX : jxok X) (hs : jScr F X L xs) (hroom : fk F + 1 ≤ (fR F).cells ∧ fn F + 6 ≤ (fR F).slots) (i : Nat) (hi : i + 5 ≤ L) (m : jM) (hR : Rel m) (k : ∀ m9 : jM, Rel m9 → jG (fup F (fk F + 1) (fn F + 6)) X m9 3451 (lw0 i) []) : jG F X m 1460 (lw0 i) [] := by
  have hF2 := hF.up (k := fk F + 1) (n := fn F + 6) hroom.1 hroom.2
  obtain ⟨c, Q, hc, hW, hM⟩ := st_isSame X hX (sx xs ((i : Int) + 1)) (sx_r _ _) (sx xs ((i : Int) + 2)) (sx_r _ _) m hR
  refine g_aload_n hF (by decide +kernel : decode cL_law 1460 = .ok (.aload_n 1, 1)) rfl ?_
  refine g_aload_n hF (by decide +kernel : decode cL_law 1461 = .ok (.aload_n 0, 1)) rfl ?_
  refine g_iload hF (by decide +kernel : decode cL_law 1462 = .ok (.iload 5, 2)) rfl ?_
  refine g_iconst hF (by decide +kernel : decode cL_law 1464 = .ok (.iconst 1, 1)) ?_
  refine g_iadd hF (by decide +kernel : decode cL_law 1465 = .ok (.iadd, 1)) ?_
  refine g_sld hF hs (by decide +kernel : decode cL_law 1466 = .ok (.iaload, 1)) ?_ ?_
  · exact ⟨by first | omega | (show (0 : Int) ≤ (i : Int) + _; omega), by first | omega | (show (i : Int) + _ < (L : Int); omega)⟩
  refine g_aload_n hF (by decide +kernel : decode cL_law 1467 = .ok (.aload_n 0, 1)) rfl ?_
  refine g_iload hF (by decide +kernel : decode cL_law 1468 = .ok (.iload 5, 2)) rfl ?_
  refine g_iconst hF (by decide +kernel : decode cL_law 1470 = .ok (.iconst 2, 1)) ?_
  refine g_iadd hF (by decide +kernel : decode cL_law 1471 = .ok (.iadd, 1)) ?_
  refine g_sld hF hs (by decide +kernel : decode cL_law 1472 = .ok (.iaload, 1)) ?_ ?_
  · exact ⟨by first | omega | (show (0 : Int) ≤ (i : Int) + _; omega), by first | omega | (show (i : Int) + _ < (L : Int); omega)⟩
  refine g_aload_n hF (by decide +kernel : decode cL_law 1473 = .ok (.aload_n 3, 1)) rfl ?_
  refine g_callL hF lkL_229 hW (by decide +kernel : decode cL_law 1474 = .ok (.invokestatic 229, 3)) (by decide) rfl rfl (Nat.le_of_ble_eq_true rfl) hroom (fun v1 m1 h1 => ?_)
  obtain ⟨rfl, hq⟩ := h1
  refine g_istore hF2 (by decide +kernel : decode cL_law 1477 = .ok (.istore 6, 2)) (by decide) ?_
  refine g_aload_n hF2 (by decide +kernel : decode cL_law 1479 = .ok (.aload_n 2, 1)) rfl ?_
  refine g_aload_n hF2 (by decide +kernel : decode cL_law 1480 = .ok (.aload_n 0, 1)) rfl ?_
  refine g_iload hF2 (by decide +kernel : decode cL_law 1481 = .ok (.iload 5, 2)) rfl ?_
  refine g_iconst hF2 (by decide +kernel : decode cL_law 1483 = .ok (.iconst 1, 1)) ?_
  refine g_iadd hF2 (by decide +kernel : decode cL_law 1484 = .ok (.iadd, 1)) ?_
  refine g_sld hF2 hs (by decide +kernel : decode cL_law 1485 = .ok (.iaload, 1)) ?_ ?_
  · exact ⟨by first | omega | (show (0 : Int) ≤ (i : Int) + _; omega), by first | omega | (show (i : Int) + _ < (L : Int); omega)⟩
  refine g_aload_n hF2 (by decide +kernel : decode cL_law 1486 = .ok (.aload_n 0, 1)) rfl ?_
  refine g_iload hF2 (by decide +kernel : decode cL_law 1487 = .ok (.iload 5, 2)) rfl ?_
  refine g_iconst hF2 (by decide +kernel : decode cL_law 1489 = .ok (.iconst 2, 1)) ?_
  refine g_iadd hF2 (by decide +kernel : decode cL_law 1490 = .ok (.iadd, 1)) ?_
  refine g_sld hF2 hs (by decide +kernel : decode cL_law 1491 = .ok (.iaload, 1)) ?_ ?_
  · exact ⟨by first | omega | (show (0 : Int) ≤ (i : Int) + _; omega), by first | omega | (show (i : Int) + _ < (L : Int); omega)⟩
  refine g_callV hF2 lkL_231 (hM m1 hq) (by decide +kernel : decode cL_law 1492 = .ok (.invokevirtual 231, 3)) (by decide) rfl rfl rfl rfl jok51 (Nat.le_of_ble_eq_true rfl) (fun v2 m2 h2 => ?_)
  obtain ⟨e1, e2, ⟨b, rfl, hb⟩, e4⟩ := h2
  refine g_istore hF2 (by decide +kernel : decode cL_law 1495 = .ok (.istore 7, 2)) (by decide) ?_
  refine g_aload_n hF2 (by decide +kernel : decode cL_law 1497 = .ok (.aload_n 2, 1)) rfl ?_
  refine g_callV hF2 lkL_176 (c_X5_thrown X hX _) (by decide +kernel : decode cL_law 1498 = .ok (.invokevirtual 176, 3)) (by decide) rfl rfl rfl rfl jok51 (Nat.le_of_ble_eq_true rfl) (fun v3 m3 h3 => ?_)
  obtain ⟨rfl, e3⟩ := h3
  obtain rfl := e3.symm
  rw [e1]
  refine g_iload hF2 (by decide +kernel : decode cL_law 1501 = .ok (.iload 6, 2)) rfl ?_
  refine g_icmp_eq hF2 (tgt := 1508) (by decide +kernel : decode cL_law 1503 = .ok (.if_icmp .eq 5, 3)) (by decide) (by omega) (by omega) (fun c1503 => ?_) (fun c1503 => absurd rfl c1503)
  refine g_iload hF2 (by decide +kernel : decode cL_law 1508 = .ok (.iload 6, 2)) rfl ?_
  refine g_if_ne hF2 (tgt := 1532) (by decide +kernel : decode cL_law 1510 = .ok (.ifCond .ne 22, 3)) (by decide) (by omega) (fun c1510 => ?_) (fun c1510 => ?_)
  · skip
    refine g_goto hF2 (tgt := 3451) (by decide +kernel : decode cL_law 1532 = .ok (.goto 1919, 3)) (by decide) ?_
    refine g_take 6 ?_
    exact k _ e2
  · skip
    obtain ⟨b2, hb2, -, hv⟩ := e4 c1510
    cases hb2
    rcases hb with rfl | rfl
    · skip
      refine g_aload_n hF2 (by decide +kernel : decode cL_law 1513 = .ok (.aload_n 3, 1)) rfl ?_
      refine g_iconst hF2 (by decide +kernel : decode cL_law 1514 = .ok (.iconst 0, 1)) ?_
      refine g_laload hF2 (by decide +kernel : decode cL_law 1515 = .ok (.laload, 1)) ?_
      rw [hv]
      refine g_iload hF2 (by decide +kernel : decode cL_law 1516 = .ok (.iload 7, 2)) rfl ?_
      refine g_if_eq hF2 (tgt := 1525) (by decide +kernel : decode cL_law 1518 = .ok (.ifCond .eq 7, 3)) (by decide) (by decide) (fun c1518 => ?_) (fun c1518 => absurd rfl c1518)
      refine g_lconst hF2 (by decide +kernel : decode cL_law 1525 = .ok (.lconst 0, 1)) rfl ?_
      refine g_lcmpE hF2 (by decide +kernel : decode cL_law 1526 = .ok (.lcmp, 1)) rfl ?_
      refine g_if_eq hF2 (tgt := 1532) (by decide +kernel : decode cL_law 1527 = .ok (.ifCond .eq 5, 3)) (by decide) (by decide) (fun c1527 => ?_) (fun c1527 => absurd rfl c1527)
      refine g_goto hF2 (tgt := 3451) (by decide +kernel : decode cL_law 1532 = .ok (.goto 1919, 3)) (by decide) ?_
      refine g_take 6 ?_
      exact k _ e2
    · skip
      refine g_aload_n hF2 (by decide +kernel : decode cL_law 1513 = .ok (.aload_n 3, 1)) rfl ?_
      refine g_iconst hF2 (by decide +kernel : decode cL_law 1514 = .ok (.iconst 0, 1)) ?_
      refine g_laload hF2 (by decide +kernel : decode cL_law 1515 = .ok (.laload, 1)) ?_
      rw [hv]
      refine g_iload hF2 (by decide +kernel : decode cL_law 1516 = .ok (.iload 7, 2)) rfl ?_
      refine g_if_eq hF2 (tgt := 1525) (by decide +kernel : decode cL_law 1518 = .ok (.ifCond .eq 7, 3)) (by decide) (by decide) (fun c1518 => absurd c1518 (by decide)) (fun c1518 => ?_)
      refine g_lconst hF2 (by decide +kernel : decode cL_law 1521 = .ok (.lconst 1, 1)) rfl ?_
      refine g_goto hF2 (tgt := 1526) (by decide +kernel : decode cL_law 1522 = .ok (.goto 4, 3)) (by decide) ?_
      refine g_lcmpE hF2 (by decide +kernel : decode cL_law 1526 = .ok (.lcmp, 1)) rfl ?_
      refine g_if_eq hF2 (tgt := 1532) (by decide +kernel : decode cL_law 1527 = .ok (.ifCond .eq 5, 3)) (by decide) (by decide) (fun c1527 => ?_) (fun c1527 => absurd rfl c1527)
      refine g_goto hF2 (tgt := 3451) (by decide +kernel : decode cL_law 1532 = .ok (.goto 1919, 3)) (by decide) ?_
      refine g_take 6 ?_
      exact k _ e2
set_option maxHeartbeats 4000000 in
set_option maxRecDepth 100000 in
theorem lb_17 {F : jF} {X : jX} {L : Nat} {xs : Nat → Int32} (hF : jOk F X RL cL_law 10 (some .boolean) 20) (hX : jxok X) (hs : jScr F X L xs) (hroom : fk F + 1 ≤ (fR F).cells ∧ fn F + 6 ≤ (fR F).slots) (i : Nat) (hi : i + 5 ≤ L) (m : jM) (hR : Rel m) (k : ∀ m9 : jM, Rel m9 → jG (fup F (fk F + 1) (fn F + 6)) X m9 3451 (lw0 i) []) : jG F X m 1535 (lw0 i) [] := by
  have hF2 := hF.up (k := fk F + 1) (n := fn F + 6) hroom.1 hroom.2
  obtain ⟨c, Q, hc, hW, hM⟩ := st_areSameKeys X hX (sx xs ((i : Int) + 1)) (sx_r _ _) (sx xs ((i : Int) + 2)) (sx_r _ _) m hR
  refine g_aload_n hF (by decide +kernel : decode cL_law 1535 = .ok (.aload_n 1, 1)) rfl ?_
  refine g_aload_n hF (by decide +kernel : decode cL_law 1536 = .ok (.aload_n 0, 1)) rfl ?_
  refine g_iload hF (by decide +kernel : decode cL_law 1537 = .ok (.iload 5, 2)) rfl ?_
  refine g_iconst hF (by decide +kernel : decode cL_law 1539 = .ok (.iconst 1, 1)) ?_
  refine g_iadd hF (by decide +kernel : decode cL_law 1540 = .ok (.iadd, 1)) ?_
  refine g_sld hF hs (by decide +kernel : decode cL_law 1541 = .ok (.iaload, 1)) ?_ ?_
  · exact ⟨by first | omega | (show (0 : Int) ≤ (i : Int) + _; omega), by first | omega | (show (i : Int) + _ < (L : Int); omega)⟩
  refine g_aload_n hF (by decide +kernel : decode cL_law 1542 = .ok (.aload_n 0, 1)) rfl ?_
  refine g_iload hF (by decide +kernel : decode cL_law 1543 = .ok (.iload 5, 2)) rfl ?_
  refine g_iconst hF (by decide +kernel : decode cL_law 1545 = .ok (.iconst 2, 1)) ?_
  refine g_iadd hF (by decide +kernel : decode cL_law 1546 = .ok (.iadd, 1)) ?_
  refine g_sld hF hs (by decide +kernel : decode cL_law 1547 = .ok (.iaload, 1)) ?_ ?_
  · exact ⟨by first | omega | (show (0 : Int) ≤ (i : Int) + _; omega), by first | omega | (show (i : Int) + _ < (L : Int); omega)⟩
  refine g_aload_n hF (by decide +kernel : decode cL_law 1548 = .ok (.aload_n 3, 1)) rfl ?_
  refine g_callL hF lkL_232 hW (by decide +kernel : decode cL_law 1549 = .ok (.invokestatic 232, 3)) (by decide) rfl rfl (Nat.le_of_ble_eq_true rfl) hroom (fun v1 m1 h1 => ?_)
  obtain ⟨rfl, hq⟩ := h1
  refine g_istore hF2 (by decide +kernel : decode cL_law 1552 = .ok (.istore 6, 2)) (by decide) ?_
  refine g_aload_n hF2 (by decide +kernel : decode cL_law 1554 = .ok (.aload_n 2, 1)) rfl ?_
  refine g_aload_n hF2 (by decide +kernel : decode cL_law 1555 = .ok (.aload_n 0, 1)) rfl ?_
  refine g_iload hF2 (by decide +kernel : decode cL_law 1556 = .ok (.iload 5, 2)) rfl ?_
  refine g_iconst hF2 (by decide +kernel : decode cL_law 1558 = .ok (.iconst 1, 1)) ?_
  refine g_iadd hF2 (by decide +kernel : decode cL_law 1559 = .ok (.iadd, 1)) ?_
  refine g_sld hF2 hs (by decide +kernel : decode cL_law 1560 = .ok (.iaload, 1)) ?_ ?_
  · exact ⟨by first | omega | (show (0 : Int) ≤ (i : Int) + _; omega), by first | omega | (show (i : Int) + _ < (L : Int); omega)⟩
  refine g_aload_n hF2 (by decide +kernel : decode cL_law 1561 = .ok (.aload_n 0, 1)) rfl ?_
  refine g_iload hF2 (by decide +kernel : decode cL_law 1562 = .ok (.iload 5, 2)) rfl ?_
  refine g_iconst hF2 (by decide +kernel : decode cL_law 1564 = .ok (.iconst 2, 1)) ?_
  refine g_iadd hF2 (by decide +kernel : decode cL_law 1565 = .ok (.iadd, 1)) ?_
  refine g_sld hF2 hs (by decide +kernel : decode cL_law 1566 = .ok (.iaload, 1)) ?_ ?_
  · exact ⟨by first | omega | (show (0 : Int) ≤ (i : Int) + _; omega), by first | omega | (show (i : Int) + _ < (L : Int); omega)⟩
  refine g_callV hF2 lkL_234 (hM m1 hq) (by decide +kernel : decode cL_law 1567 = .ok (.invokevirtual 234, 3)) (by decide) rfl rfl rfl rfl jok51 (Nat.le_of_ble_eq_true rfl) (fun v2 m2 h2 => ?_)
  obtain ⟨e1, e2, ⟨b, rfl, hb⟩, e4⟩ := h2
  refine g_istore hF2 (by decide +kernel : decode cL_law 1570 = .ok (.istore 7, 2)) (by decide) ?_
  refine g_aload_n hF2 (by decide +kernel : decode cL_law 1572 = .ok (.aload_n 2, 1)) rfl ?_
  refine g_callV hF2 lkL_176 (c_X5_thrown X hX _) (by decide +kernel : decode cL_law 1573 = .ok (.invokevirtual 176, 3)) (by decide) rfl rfl rfl rfl jok51 (Nat.le_of_ble_eq_true rfl) (fun v3 m3 h3 => ?_)
  obtain ⟨rfl, e3⟩ := h3
  obtain rfl := e3.symm
  rw [e1]
  refine g_iload hF2 (by decide +kernel : decode cL_law 1576 = .ok (.iload 6, 2)) rfl ?_
  refine g_icmp_eq hF2 (tgt := 1583) (by decide +kernel : decode cL_law 1578 = .ok (.if_icmp .eq 5, 3)) (by decide) (by omega) (by omega) (fun c1578 => ?_) (fun c1578 => absurd rfl c1578)
  refine g_iload hF2 (by decide +kernel : decode cL_law 1583 = .ok (.iload 6, 2)) rfl ?_
  refine g_if_ne hF2 (tgt := 1607) (by decide +kernel : decode cL_law 1585 = .ok (.ifCond .ne 22, 3)) (by decide) (by omega) (fun c1585 => ?_) (fun c1585 => ?_)
  · skip
    refine g_goto hF2 (tgt := 3451) (by decide +kernel : decode cL_law 1607 = .ok (.goto 1844, 3)) (by decide) ?_
    refine g_take 6 ?_
    exact k _ e2
  · skip
    obtain ⟨b2, hb2, -, hv⟩ := e4 c1585
    cases hb2
    rcases hb with rfl | rfl
    · skip
      refine g_aload_n hF2 (by decide +kernel : decode cL_law 1588 = .ok (.aload_n 3, 1)) rfl ?_
      refine g_iconst hF2 (by decide +kernel : decode cL_law 1589 = .ok (.iconst 0, 1)) ?_
      refine g_laload hF2 (by decide +kernel : decode cL_law 1590 = .ok (.laload, 1)) ?_
      rw [hv]
      refine g_iload hF2 (by decide +kernel : decode cL_law 1591 = .ok (.iload 7, 2)) rfl ?_
      refine g_if_eq hF2 (tgt := 1600) (by decide +kernel : decode cL_law 1593 = .ok (.ifCond .eq 7, 3)) (by decide) (by decide) (fun c1593 => ?_) (fun c1593 => absurd rfl c1593)
      refine g_lconst hF2 (by decide +kernel : decode cL_law 1600 = .ok (.lconst 0, 1)) rfl ?_
      refine g_lcmpE hF2 (by decide +kernel : decode cL_law 1601 = .ok (.lcmp, 1)) rfl ?_
      refine g_if_eq hF2 (tgt := 1607) (by decide +kernel : decode cL_law 1602 = .ok (.ifCond .eq 5, 3)) (by decide) (by decide) (fun c1602 => ?_) (fun c1602 => absurd rfl c1602)
      refine g_goto hF2 (tgt := 3451) (by decide +kernel : decode cL_law 1607 = .ok (.goto 1844, 3)) (by decide) ?_
      refine g_take 6 ?_
      exact k _ e2
    · skip
      refine g_aload_n hF2 (by decide +kernel : decode cL_law 1588 = .ok (.aload_n 3, 1)) rfl ?_
      refine g_iconst hF2 (by decide +kernel : decode cL_law 1589 = .ok (.iconst 0, 1)) ?_
      refine g_laload hF2 (by decide +kernel : decode cL_law 1590 = .ok (.laload, 1)) ?_
      rw [hv]
      refine g_iload hF2 (by decide +kernel : decode cL_law 1591 = .ok (.iload 7, 2)) rfl ?_
      refine g_if_eq hF2 (tgt := 1600) (by decide +kernel : decode cL_law 1593 = .ok (.ifCond .eq 7, 3)) (by decide) (by decide) (fun c1593 => absurd c1593 (by decide)) (fun c1593 => ?_)
      refine g_lconst hF2 (by decide +kernel : decode cL_law 1596 = .ok (.lconst 1, 1)) rfl ?_
      refine g_goto hF2 (tgt := 1601) (by decide +kernel : decode cL_law 1597 = .ok (.goto 4, 3)) (by decide) ?_
      refine g_lcmpE hF2 (by decide +kernel : decode cL_law 1601 = .ok (.lcmp, 1)) rfl ?_
      refine g_if_eq hF2 (tgt := 1607) (by decide +kernel : decode cL_law 1602 = .ok (.ifCond .eq 5, 3)) (by decide) (by decide) (fun c1602 => ?_) (fun c1602 => absurd rfl c1602)
      refine g_goto hF2 (tgt := 3451) (by decide +kernel : decode cL_law 1607 = .ok (.goto 1844, 3)) (by decide) ?_
      refine g_take 6 ?_
      exact k _ e2
set_option maxHeartbeats 4000000 in
set_option maxRecDepth 100000 in
theorem lb_18 {F : jF} {X : jX} {L : Nat} {xs : Nat → Int32} (hF : jOk F X RL cL_law 10 (some .boolean) 20) (hX : jxok X) (hs : jScr F X L xs) (hroom : fk F + 1 ≤ (fR F).cells ∧ fn F + 6 ≤ (fR F).slots) (i : Nat) (hi : i + 5 ≤ L) (m : jM) (hR : Rel m) (k : ∀ m9 : jM, Rel m9 → jG (fup F (fk F + 1) (fn F + 6)) X m9 3451 (lw0 i) []) : jG F X m 1610 (lw0 i) [] := by
  have hF2 := hF.up (k := fk F + 1) (n := fn F + 6) hroom.1 hroom.2
  obtain ⟨c, Q, hc, hW, hM⟩ := st_areSameValues X hX (sx xs ((i : Int) + 1)) (sx_r _ _) (sx xs ((i : Int) + 2)) (sx_r _ _) m hR
  refine g_aload_n hF (by decide +kernel : decode cL_law 1610 = .ok (.aload_n 1, 1)) rfl ?_
  refine g_aload_n hF (by decide +kernel : decode cL_law 1611 = .ok (.aload_n 0, 1)) rfl ?_
  refine g_iload hF (by decide +kernel : decode cL_law 1612 = .ok (.iload 5, 2)) rfl ?_
  refine g_iconst hF (by decide +kernel : decode cL_law 1614 = .ok (.iconst 1, 1)) ?_
  refine g_iadd hF (by decide +kernel : decode cL_law 1615 = .ok (.iadd, 1)) ?_
  refine g_sld hF hs (by decide +kernel : decode cL_law 1616 = .ok (.iaload, 1)) ?_ ?_
  · exact ⟨by first | omega | (show (0 : Int) ≤ (i : Int) + _; omega), by first | omega | (show (i : Int) + _ < (L : Int); omega)⟩
  refine g_aload_n hF (by decide +kernel : decode cL_law 1617 = .ok (.aload_n 0, 1)) rfl ?_
  refine g_iload hF (by decide +kernel : decode cL_law 1618 = .ok (.iload 5, 2)) rfl ?_
  refine g_iconst hF (by decide +kernel : decode cL_law 1620 = .ok (.iconst 2, 1)) ?_
  refine g_iadd hF (by decide +kernel : decode cL_law 1621 = .ok (.iadd, 1)) ?_
  refine g_sld hF hs (by decide +kernel : decode cL_law 1622 = .ok (.iaload, 1)) ?_ ?_
  · exact ⟨by first | omega | (show (0 : Int) ≤ (i : Int) + _; omega), by first | omega | (show (i : Int) + _ < (L : Int); omega)⟩
  refine g_aload_n hF (by decide +kernel : decode cL_law 1623 = .ok (.aload_n 3, 1)) rfl ?_
  refine g_callL hF lkL_235 hW (by decide +kernel : decode cL_law 1624 = .ok (.invokestatic 235, 3)) (by decide) rfl rfl (Nat.le_of_ble_eq_true rfl) hroom (fun v1 m1 h1 => ?_)
  obtain ⟨rfl, hq⟩ := h1
  refine g_istore hF2 (by decide +kernel : decode cL_law 1627 = .ok (.istore 6, 2)) (by decide) ?_
  refine g_aload_n hF2 (by decide +kernel : decode cL_law 1629 = .ok (.aload_n 2, 1)) rfl ?_
  refine g_aload_n hF2 (by decide +kernel : decode cL_law 1630 = .ok (.aload_n 0, 1)) rfl ?_
  refine g_iload hF2 (by decide +kernel : decode cL_law 1631 = .ok (.iload 5, 2)) rfl ?_
  refine g_iconst hF2 (by decide +kernel : decode cL_law 1633 = .ok (.iconst 1, 1)) ?_
  refine g_iadd hF2 (by decide +kernel : decode cL_law 1634 = .ok (.iadd, 1)) ?_
  refine g_sld hF2 hs (by decide +kernel : decode cL_law 1635 = .ok (.iaload, 1)) ?_ ?_
  · exact ⟨by first | omega | (show (0 : Int) ≤ (i : Int) + _; omega), by first | omega | (show (i : Int) + _ < (L : Int); omega)⟩
  refine g_aload_n hF2 (by decide +kernel : decode cL_law 1636 = .ok (.aload_n 0, 1)) rfl ?_
  refine g_iload hF2 (by decide +kernel : decode cL_law 1637 = .ok (.iload 5, 2)) rfl ?_
  refine g_iconst hF2 (by decide +kernel : decode cL_law 1639 = .ok (.iconst 2, 1)) ?_
  refine g_iadd hF2 (by decide +kernel : decode cL_law 1640 = .ok (.iadd, 1)) ?_
  refine g_sld hF2 hs (by decide +kernel : decode cL_law 1641 = .ok (.iaload, 1)) ?_ ?_
  · exact ⟨by first | omega | (show (0 : Int) ≤ (i : Int) + _; omega), by first | omega | (show (i : Int) + _ < (L : Int); omega)⟩
  refine g_callV hF2 lkL_237 (hM m1 hq) (by decide +kernel : decode cL_law 1642 = .ok (.invokevirtual 237, 3)) (by decide) rfl rfl rfl rfl jok51 (Nat.le_of_ble_eq_true rfl) (fun v2 m2 h2 => ?_)
  obtain ⟨e1, e2, ⟨b, rfl, hb⟩, e4⟩ := h2
  refine g_istore hF2 (by decide +kernel : decode cL_law 1645 = .ok (.istore 7, 2)) (by decide) ?_
  refine g_aload_n hF2 (by decide +kernel : decode cL_law 1647 = .ok (.aload_n 2, 1)) rfl ?_
  refine g_callV hF2 lkL_176 (c_X5_thrown X hX _) (by decide +kernel : decode cL_law 1648 = .ok (.invokevirtual 176, 3)) (by decide) rfl rfl rfl rfl jok51 (Nat.le_of_ble_eq_true rfl) (fun v3 m3 h3 => ?_)
  obtain ⟨rfl, e3⟩ := h3
  obtain rfl := e3.symm
  rw [e1]
  refine g_iload hF2 (by decide +kernel : decode cL_law 1651 = .ok (.iload 6, 2)) rfl ?_
  refine g_icmp_eq hF2 (tgt := 1658) (by decide +kernel : decode cL_law 1653 = .ok (.if_icmp .eq 5, 3)) (by decide) (by omega) (by omega) (fun c1653 => ?_) (fun c1653 => absurd rfl c1653)
  refine g_iload hF2 (by decide +kernel : decode cL_law 1658 = .ok (.iload 6, 2)) rfl ?_
  refine g_if_ne hF2 (tgt := 1682) (by decide +kernel : decode cL_law 1660 = .ok (.ifCond .ne 22, 3)) (by decide) (by omega) (fun c1660 => ?_) (fun c1660 => ?_)
  · skip
    refine g_goto hF2 (tgt := 3451) (by decide +kernel : decode cL_law 1682 = .ok (.goto 1769, 3)) (by decide) ?_
    refine g_take 6 ?_
    exact k _ e2
  · skip
    obtain ⟨b2, hb2, -, hv⟩ := e4 c1660
    cases hb2
    rcases hb with rfl | rfl
    · skip
      refine g_aload_n hF2 (by decide +kernel : decode cL_law 1663 = .ok (.aload_n 3, 1)) rfl ?_
      refine g_iconst hF2 (by decide +kernel : decode cL_law 1664 = .ok (.iconst 0, 1)) ?_
      refine g_laload hF2 (by decide +kernel : decode cL_law 1665 = .ok (.laload, 1)) ?_
      rw [hv]
      refine g_iload hF2 (by decide +kernel : decode cL_law 1666 = .ok (.iload 7, 2)) rfl ?_
      refine g_if_eq hF2 (tgt := 1675) (by decide +kernel : decode cL_law 1668 = .ok (.ifCond .eq 7, 3)) (by decide) (by decide) (fun c1668 => ?_) (fun c1668 => absurd rfl c1668)
      refine g_lconst hF2 (by decide +kernel : decode cL_law 1675 = .ok (.lconst 0, 1)) rfl ?_
      refine g_lcmpE hF2 (by decide +kernel : decode cL_law 1676 = .ok (.lcmp, 1)) rfl ?_
      refine g_if_eq hF2 (tgt := 1682) (by decide +kernel : decode cL_law 1677 = .ok (.ifCond .eq 5, 3)) (by decide) (by decide) (fun c1677 => ?_) (fun c1677 => absurd rfl c1677)
      refine g_goto hF2 (tgt := 3451) (by decide +kernel : decode cL_law 1682 = .ok (.goto 1769, 3)) (by decide) ?_
      refine g_take 6 ?_
      exact k _ e2
    · skip
      refine g_aload_n hF2 (by decide +kernel : decode cL_law 1663 = .ok (.aload_n 3, 1)) rfl ?_
      refine g_iconst hF2 (by decide +kernel : decode cL_law 1664 = .ok (.iconst 0, 1)) ?_
      refine g_laload hF2 (by decide +kernel : decode cL_law 1665 = .ok (.laload, 1)) ?_
      rw [hv]
      refine g_iload hF2 (by decide +kernel : decode cL_law 1666 = .ok (.iload 7, 2)) rfl ?_
      refine g_if_eq hF2 (tgt := 1675) (by decide +kernel : decode cL_law 1668 = .ok (.ifCond .eq 7, 3)) (by decide) (by decide) (fun c1668 => absurd c1668 (by decide)) (fun c1668 => ?_)
      refine g_lconst hF2 (by decide +kernel : decode cL_law 1671 = .ok (.lconst 1, 1)) rfl ?_
      refine g_goto hF2 (tgt := 1676) (by decide +kernel : decode cL_law 1672 = .ok (.goto 4, 3)) (by decide) ?_
      refine g_lcmpE hF2 (by decide +kernel : decode cL_law 1676 = .ok (.lcmp, 1)) rfl ?_
      refine g_if_eq hF2 (tgt := 1682) (by decide +kernel : decode cL_law 1677 = .ok (.ifCond .eq 5, 3)) (by decide) (by decide) (fun c1677 => ?_) (fun c1677 => absurd rfl c1677)
      refine g_goto hF2 (tgt := 3451) (by decide +kernel : decode cL_law 1682 = .ok (.goto 1769, 3)) (by decide) ?_
      refine g_take 6 ?_
      exact k _ e2
set_option maxHeartbeats 4000000 in
set_option maxRecDepth 100000 in
theorem lb_19 {F : jF} {X : jX} {L : Nat} {xs : Nat → Int32} (hF : jOk F X RL cL_law 10 (some .boolean) 20) (hX : jxok X) (hs : jScr F X L xs) (hroom : fk F + 1 ≤ (fR F).cells ∧ fn F + 6 ≤ (fR F).slots) (i : Nat) (hi : i + 5 ≤ L) (m : jM) (hR : Rel m) (k : ∀ m9 : jM, Rel m9 → jG (fup F (fk F + 1) (fn F + 6)) X m9 3451 (lw0 i) []) : jG F X m 1685 (lw0 i) [] := by
  have hF2 := hF.up (k := fk F + 1) (n := fn F + 6) hroom.1 hroom.2
  obtain ⟨c, Q, hc, hW, hM⟩ := st_hash X hX (sx xs ((i : Int) + 1)) (sx_r _ _) m hR
  refine g_aload_n hF (by decide +kernel : decode cL_law 1685 = .ok (.aload_n 1, 1)) rfl ?_
  refine g_aload_n hF (by decide +kernel : decode cL_law 1686 = .ok (.aload_n 0, 1)) rfl ?_
  refine g_iload hF (by decide +kernel : decode cL_law 1687 = .ok (.iload 5, 2)) rfl ?_
  refine g_iconst hF (by decide +kernel : decode cL_law 1689 = .ok (.iconst 1, 1)) ?_
  refine g_iadd hF (by decide +kernel : decode cL_law 1690 = .ok (.iadd, 1)) ?_
  refine g_sld hF hs (by decide +kernel : decode cL_law 1691 = .ok (.iaload, 1)) ?_ ?_
  · exact ⟨by first | omega | (show (0 : Int) ≤ (i : Int) + _; omega), by first | omega | (show (i : Int) + _ < (L : Int); omega)⟩
  refine g_aload_n hF (by decide +kernel : decode cL_law 1692 = .ok (.aload_n 3, 1)) rfl ?_
  refine g_callL hF lkL_238 hW (by decide +kernel : decode cL_law 1693 = .ok (.invokestatic 238, 3)) (by decide) rfl rfl (Nat.le_of_ble_eq_true rfl) hroom (fun v1 m1 h1 => ?_)
  obtain ⟨rfl, hq⟩ := h1
  refine g_istore hF2 (by decide +kernel : decode cL_law 1696 = .ok (.istore 6, 2)) (by decide) ?_
  refine g_aload_n hF2 (by decide +kernel : decode cL_law 1698 = .ok (.aload_n 2, 1)) rfl ?_
  refine g_aload_n hF2 (by decide +kernel : decode cL_law 1699 = .ok (.aload_n 0, 1)) rfl ?_
  refine g_iload hF2 (by decide +kernel : decode cL_law 1700 = .ok (.iload 5, 2)) rfl ?_
  refine g_iconst hF2 (by decide +kernel : decode cL_law 1702 = .ok (.iconst 1, 1)) ?_
  refine g_iadd hF2 (by decide +kernel : decode cL_law 1703 = .ok (.iadd, 1)) ?_
  refine g_sld hF2 hs (by decide +kernel : decode cL_law 1704 = .ok (.iaload, 1)) ?_ ?_
  · exact ⟨by first | omega | (show (0 : Int) ≤ (i : Int) + _; omega), by first | omega | (show (i : Int) + _ < (L : Int); omega)⟩
  refine g_callV hF2 lkL_240 (hM m1 hq) (by decide +kernel : decode cL_law 1705 = .ok (.invokevirtual 240, 3)) (by decide) rfl rfl rfl rfl jok51 (Nat.le_of_ble_eq_true rfl) (fun v2 m2 h2 => ?_)
  obtain ⟨e1, e2, ⟨b, rfl⟩, e4⟩ := h2
  refine g_istore hF2 (by decide +kernel : decode cL_law 1708 = .ok (.istore 7, 2)) (by decide) ?_
  refine g_aload_n hF2 (by decide +kernel : decode cL_law 1710 = .ok (.aload_n 2, 1)) rfl ?_
  refine g_callV hF2 lkL_176 (c_X5_thrown X hX _) (by decide +kernel : decode cL_law 1711 = .ok (.invokevirtual 176, 3)) (by decide) rfl rfl rfl rfl jok51 (Nat.le_of_ble_eq_true rfl) (fun v3 m3 h3 => ?_)
  obtain ⟨rfl, e3⟩ := h3
  obtain rfl := e3.symm
  rw [e1]
  refine g_iload hF2 (by decide +kernel : decode cL_law 1714 = .ok (.iload 6, 2)) rfl ?_
  refine g_icmp_eq hF2 (tgt := 1721) (by decide +kernel : decode cL_law 1716 = .ok (.if_icmp .eq 5, 3)) (by decide) (by omega) (by omega) (fun c1716 => ?_) (fun c1716 => absurd rfl c1716)
  refine g_iload hF2 (by decide +kernel : decode cL_law 1721 = .ok (.iload 6, 2)) rfl ?_
  refine g_if_ne hF2 (tgt := 1738) (by decide +kernel : decode cL_law 1723 = .ok (.ifCond .ne 15, 3)) (by decide) (by omega) (fun c1723 => ?_) (fun c1723 => ?_)
  · skip
    refine g_goto hF2 (tgt := 3451) (by decide +kernel : decode cL_law 1738 = .ok (.goto 1713, 3)) (by decide) ?_
    refine g_take 6 ?_
    exact k _ e2
  · skip
    obtain ⟨b2, hb2, hv⟩ := e4 c1723
    cases hb2
    refine g_aload_n hF2 (by decide +kernel : decode cL_law 1726 = .ok (.aload_n 3, 1)) rfl ?_
    refine g_iconst hF2 (by decide +kernel : decode cL_law 1727 = .ok (.iconst 0, 1)) ?_
    refine g_laload hF2 (by decide +kernel : decode cL_law 1728 = .ok (.laload, 1)) ?_
    rw [hv]
    refine g_iload hF2 (by decide +kernel : decode cL_law 1729 = .ok (.iload 7, 2)) rfl ?_
    refine g_i2lN hF2 (by decide +kernel : decode cL_law 1731 = .ok (.i2l, 1)) ?_
    refine g_lcmpE hF2 (by decide +kernel : decode cL_law 1732 = .ok (.lcmp, 1)) rfl ?_
    refine g_if_eq hF2 (tgt := 1738) (by decide +kernel : decode cL_law 1733 = .ok (.ifCond .eq 5, 3)) (by decide) (by decide) (fun c1733 => ?_) (fun c1733 => absurd rfl c1733)
    refine g_goto hF2 (tgt := 3451) (by decide +kernel : decode cL_law 1738 = .ok (.goto 1713, 3)) (by decide) ?_
    refine g_take 6 ?_
    exact k _ e2
set_option maxHeartbeats 4000000 in
set_option maxRecDepth 100000 in
theorem lb_20 {F : jF} {X : jX} {L : Nat} {xs : Nat → Int32} (hF : jOk F X RL cL_law 10 (some .boolean) 20) (hX : jxok X) (hs : jScr F X L xs) (hroom : fk F + 1 ≤ (fR F).cells ∧ fn F + 6 ≤ (fR F).slots) (i : Nat) (hi : i + 5 ≤ L) (m : jM) (hR : Rel m) (k : ∀ m9 : jM, Rel m9 → jG (fup F (fk F + 1) (fn F + 6)) X m9 3451 (lw0 i) []) : jG F X m 1741 (lw0 i) [] := by
  have hF2 := hF.up (k := fk F + 1) (n := fn F + 6) hroom.1 hroom.2
  obtain ⟨c, Q, hc, hW, hM⟩ := st_keysHash X hX (sx xs ((i : Int) + 1)) (sx_r _ _) m hR
  refine g_aload_n hF (by decide +kernel : decode cL_law 1741 = .ok (.aload_n 1, 1)) rfl ?_
  refine g_aload_n hF (by decide +kernel : decode cL_law 1742 = .ok (.aload_n 0, 1)) rfl ?_
  refine g_iload hF (by decide +kernel : decode cL_law 1743 = .ok (.iload 5, 2)) rfl ?_
  refine g_iconst hF (by decide +kernel : decode cL_law 1745 = .ok (.iconst 1, 1)) ?_
  refine g_iadd hF (by decide +kernel : decode cL_law 1746 = .ok (.iadd, 1)) ?_
  refine g_sld hF hs (by decide +kernel : decode cL_law 1747 = .ok (.iaload, 1)) ?_ ?_
  · exact ⟨by first | omega | (show (0 : Int) ≤ (i : Int) + _; omega), by first | omega | (show (i : Int) + _ < (L : Int); omega)⟩
  refine g_aload_n hF (by decide +kernel : decode cL_law 1748 = .ok (.aload_n 3, 1)) rfl ?_
  refine g_callL hF lkL_241 hW (by decide +kernel : decode cL_law 1749 = .ok (.invokestatic 241, 3)) (by decide) rfl rfl (Nat.le_of_ble_eq_true rfl) hroom (fun v1 m1 h1 => ?_)
  obtain ⟨rfl, hq⟩ := h1
  refine g_istore hF2 (by decide +kernel : decode cL_law 1752 = .ok (.istore 6, 2)) (by decide) ?_
  refine g_aload_n hF2 (by decide +kernel : decode cL_law 1754 = .ok (.aload_n 2, 1)) rfl ?_
  refine g_aload_n hF2 (by decide +kernel : decode cL_law 1755 = .ok (.aload_n 0, 1)) rfl ?_
  refine g_iload hF2 (by decide +kernel : decode cL_law 1756 = .ok (.iload 5, 2)) rfl ?_
  refine g_iconst hF2 (by decide +kernel : decode cL_law 1758 = .ok (.iconst 1, 1)) ?_
  refine g_iadd hF2 (by decide +kernel : decode cL_law 1759 = .ok (.iadd, 1)) ?_
  refine g_sld hF2 hs (by decide +kernel : decode cL_law 1760 = .ok (.iaload, 1)) ?_ ?_
  · exact ⟨by first | omega | (show (0 : Int) ≤ (i : Int) + _; omega), by first | omega | (show (i : Int) + _ < (L : Int); omega)⟩
  refine g_callV hF2 lkL_243 (hM m1 hq) (by decide +kernel : decode cL_law 1761 = .ok (.invokevirtual 243, 3)) (by decide) rfl rfl rfl rfl jok51 (Nat.le_of_ble_eq_true rfl) (fun v2 m2 h2 => ?_)
  obtain ⟨e1, e2, ⟨b, rfl⟩, e4⟩ := h2
  refine g_istore hF2 (by decide +kernel : decode cL_law 1764 = .ok (.istore 7, 2)) (by decide) ?_
  refine g_aload_n hF2 (by decide +kernel : decode cL_law 1766 = .ok (.aload_n 2, 1)) rfl ?_
  refine g_callV hF2 lkL_176 (c_X5_thrown X hX _) (by decide +kernel : decode cL_law 1767 = .ok (.invokevirtual 176, 3)) (by decide) rfl rfl rfl rfl jok51 (Nat.le_of_ble_eq_true rfl) (fun v3 m3 h3 => ?_)
  obtain ⟨rfl, e3⟩ := h3
  obtain rfl := e3.symm
  rw [e1]
  refine g_iload hF2 (by decide +kernel : decode cL_law 1770 = .ok (.iload 6, 2)) rfl ?_
  refine g_icmp_eq hF2 (tgt := 1777) (by decide +kernel : decode cL_law 1772 = .ok (.if_icmp .eq 5, 3)) (by decide) (by omega) (by omega) (fun c1772 => ?_) (fun c1772 => absurd rfl c1772)
  refine g_iload hF2 (by decide +kernel : decode cL_law 1777 = .ok (.iload 6, 2)) rfl ?_
  refine g_if_ne hF2 (tgt := 1794) (by decide +kernel : decode cL_law 1779 = .ok (.ifCond .ne 15, 3)) (by decide) (by omega) (fun c1779 => ?_) (fun c1779 => ?_)
  · skip
    refine g_goto hF2 (tgt := 3451) (by decide +kernel : decode cL_law 1794 = .ok (.goto 1657, 3)) (by decide) ?_
    refine g_take 6 ?_
    exact k _ e2
  · skip
    obtain ⟨b2, hb2, hv⟩ := e4 c1779
    cases hb2
    refine g_aload_n hF2 (by decide +kernel : decode cL_law 1782 = .ok (.aload_n 3, 1)) rfl ?_
    refine g_iconst hF2 (by decide +kernel : decode cL_law 1783 = .ok (.iconst 0, 1)) ?_
    refine g_laload hF2 (by decide +kernel : decode cL_law 1784 = .ok (.laload, 1)) ?_
    rw [hv]
    refine g_iload hF2 (by decide +kernel : decode cL_law 1785 = .ok (.iload 7, 2)) rfl ?_
    refine g_i2lN hF2 (by decide +kernel : decode cL_law 1787 = .ok (.i2l, 1)) ?_
    refine g_lcmpE hF2 (by decide +kernel : decode cL_law 1788 = .ok (.lcmp, 1)) rfl ?_
    refine g_if_eq hF2 (tgt := 1794) (by decide +kernel : decode cL_law 1789 = .ok (.ifCond .eq 5, 3)) (by decide) (by decide) (fun c1789 => ?_) (fun c1789 => absurd rfl c1789)
    refine g_goto hF2 (tgt := 3451) (by decide +kernel : decode cL_law 1794 = .ok (.goto 1657, 3)) (by decide) ?_
    refine g_take 6 ?_
    exact k _ e2
set_option maxHeartbeats 4000000 in
set_option maxRecDepth 100000 in
theorem lb_21 {F : jF} {X : jX} {L : Nat} {xs : Nat → Int32} (hF : jOk F X RL cL_law 10 (some .boolean) 20) (hX : jxok X) (hs : jScr F X L xs) (hroom : fk F + 1 ≤ (fR F).cells ∧ fn F + 6 ≤ (fR F).slots) (i : Nat) (hi : i + 5 ≤ L) (m : jM) (hR : Rel m) (k : ∀ m9 : jM, Rel m9 → jG (fup F (fk F + 1) (fn F + 6)) X m9 3451 (lw0 i) []) : jG F X m 1797 (lw0 i) [] := by
  have hF2 := hF.up (k := fk F + 1) (n := fn F + 6) hroom.1 hroom.2
  obtain ⟨c, Q, hc, hW, hM⟩ := st_dropValue X hX (sx xs ((i : Int) + 1)) (sx_r _ _) (sx xs ((i : Int) + 2)) (sx_r _ _) m hR
  refine g_aload_n hF (by decide +kernel : decode cL_law 1797 = .ok (.aload_n 1, 1)) rfl ?_
  refine g_aload_n hF (by decide +kernel : decode cL_law 1798 = .ok (.aload_n 0, 1)) rfl ?_
  refine g_iload hF (by decide +kernel : decode cL_law 1799 = .ok (.iload 5, 2)) rfl ?_
  refine g_iconst hF (by decide +kernel : decode cL_law 1801 = .ok (.iconst 1, 1)) ?_
  refine g_iadd hF (by decide +kernel : decode cL_law 1802 = .ok (.iadd, 1)) ?_
  refine g_sld hF hs (by decide +kernel : decode cL_law 1803 = .ok (.iaload, 1)) ?_ ?_
  · exact ⟨by first | omega | (show (0 : Int) ≤ (i : Int) + _; omega), by first | omega | (show (i : Int) + _ < (L : Int); omega)⟩
  refine g_aload_n hF (by decide +kernel : decode cL_law 1804 = .ok (.aload_n 0, 1)) rfl ?_
  refine g_iload hF (by decide +kernel : decode cL_law 1805 = .ok (.iload 5, 2)) rfl ?_
  refine g_iconst hF (by decide +kernel : decode cL_law 1807 = .ok (.iconst 2, 1)) ?_
  refine g_iadd hF (by decide +kernel : decode cL_law 1808 = .ok (.iadd, 1)) ?_
  refine g_sld hF hs (by decide +kernel : decode cL_law 1809 = .ok (.iaload, 1)) ?_ ?_
  · exact ⟨by first | omega | (show (0 : Int) ≤ (i : Int) + _; omega), by first | omega | (show (i : Int) + _ < (L : Int); omega)⟩
  refine g_aload_n hF (by decide +kernel : decode cL_law 1810 = .ok (.aload_n 3, 1)) rfl ?_
  refine g_callL hF lkL_244 hW (by decide +kernel : decode cL_law 1811 = .ok (.invokestatic 244, 3)) (by decide) rfl rfl (Nat.le_of_ble_eq_true rfl) hroom (fun v1 m1 h1 => ?_)
  obtain ⟨rfl, hq⟩ := h1
  refine g_istore hF2 (by decide +kernel : decode cL_law 1814 = .ok (.istore 6, 2)) (by decide) ?_
  refine g_aload_n hF2 (by decide +kernel : decode cL_law 1816 = .ok (.aload_n 2, 1)) rfl ?_
  refine g_aload_n hF2 (by decide +kernel : decode cL_law 1817 = .ok (.aload_n 0, 1)) rfl ?_
  refine g_iload hF2 (by decide +kernel : decode cL_law 1818 = .ok (.iload 5, 2)) rfl ?_
  refine g_iconst hF2 (by decide +kernel : decode cL_law 1820 = .ok (.iconst 1, 1)) ?_
  refine g_iadd hF2 (by decide +kernel : decode cL_law 1821 = .ok (.iadd, 1)) ?_
  refine g_sld hF2 hs (by decide +kernel : decode cL_law 1822 = .ok (.iaload, 1)) ?_ ?_
  · exact ⟨by first | omega | (show (0 : Int) ≤ (i : Int) + _; omega), by first | omega | (show (i : Int) + _ < (L : Int); omega)⟩
  refine g_aload_n hF2 (by decide +kernel : decode cL_law 1823 = .ok (.aload_n 0, 1)) rfl ?_
  refine g_iload hF2 (by decide +kernel : decode cL_law 1824 = .ok (.iload 5, 2)) rfl ?_
  refine g_iconst hF2 (by decide +kernel : decode cL_law 1826 = .ok (.iconst 2, 1)) ?_
  refine g_iadd hF2 (by decide +kernel : decode cL_law 1827 = .ok (.iadd, 1)) ?_
  refine g_sld hF2 hs (by decide +kernel : decode cL_law 1828 = .ok (.iaload, 1)) ?_ ?_
  · exact ⟨by first | omega | (show (0 : Int) ≤ (i : Int) + _; omega), by first | omega | (show (i : Int) + _ < (L : Int); omega)⟩
  refine g_callV hF2 lkL_246 (hM m1 hq) (by decide +kernel : decode cL_law 1829 = .ok (.invokevirtual 246, 3)) (by decide) rfl rfl rfl rfl jok51 (Nat.le_of_ble_eq_true rfl) (fun v2 m2 h2 => ?_)
  obtain ⟨e1, e2, ⟨b, rfl⟩, e4⟩ := h2
  refine g_istore hF2 (by decide +kernel : decode cL_law 1832 = .ok (.istore 7, 2)) (by decide) ?_
  refine g_aload_n hF2 (by decide +kernel : decode cL_law 1834 = .ok (.aload_n 2, 1)) rfl ?_
  refine g_callV hF2 lkL_176 (c_X5_thrown X hX _) (by decide +kernel : decode cL_law 1835 = .ok (.invokevirtual 176, 3)) (by decide) rfl rfl rfl rfl jok51 (Nat.le_of_ble_eq_true rfl) (fun v3 m3 h3 => ?_)
  obtain ⟨rfl, e3⟩ := h3
  obtain rfl := e3.symm
  rw [e1]
  refine g_iload hF2 (by decide +kernel : decode cL_law 1838 = .ok (.iload 6, 2)) rfl ?_
  refine g_icmp_eq hF2 (tgt := 1845) (by decide +kernel : decode cL_law 1840 = .ok (.if_icmp .eq 5, 3)) (by decide) (by omega) (by omega) (fun c1840 => ?_) (fun c1840 => absurd rfl c1840)
  refine g_iload hF2 (by decide +kernel : decode cL_law 1845 = .ok (.iload 6, 2)) rfl ?_
  refine g_if_ne hF2 (tgt := 1862) (by decide +kernel : decode cL_law 1847 = .ok (.ifCond .ne 15, 3)) (by decide) (by omega) (fun c1847 => ?_) (fun c1847 => ?_)
  · skip
    refine g_goto hF2 (tgt := 3451) (by decide +kernel : decode cL_law 1862 = .ok (.goto 1589, 3)) (by decide) ?_
    refine g_take 6 ?_
    exact k _ e2
  · skip
    obtain ⟨b2, hb2, hv⟩ := e4 c1847
    cases hb2
    refine g_aload_n hF2 (by decide +kernel : decode cL_law 1850 = .ok (.aload_n 3, 1)) rfl ?_
    refine g_iconst hF2 (by decide +kernel : decode cL_law 1851 = .ok (.iconst 0, 1)) ?_
    refine g_laload hF2 (by decide +kernel : decode cL_law 1852 = .ok (.laload, 1)) ?_
    rw [hv]
    refine g_iload hF2 (by decide +kernel : decode cL_law 1853 = .ok (.iload 7, 2)) rfl ?_
    refine g_i2lN hF2 (by decide +kernel : decode cL_law 1855 = .ok (.i2l, 1)) ?_
    refine g_lcmpE hF2 (by decide +kernel : decode cL_law 1856 = .ok (.lcmp, 1)) rfl ?_
    refine g_if_eq hF2 (tgt := 1862) (by decide +kernel : decode cL_law 1857 = .ok (.ifCond .eq 5, 3)) (by decide) (by decide) (fun c1857 => ?_) (fun c1857 => absurd rfl c1857)
    refine g_goto hF2 (tgt := 3451) (by decide +kernel : decode cL_law 1862 = .ok (.goto 1589, 3)) (by decide) ?_
    refine g_take 6 ?_
    exact k _ e2

/-! BLOCKS of the law -/
set_option maxHeartbeats 4000000 in
set_option maxRecDepth 100000 in
theorem lb_0 {F : jF} {X : jX} {L : Nat} {xs : Nat → Int32} (hF : jOk F X RL cL_law 10 (some .boolean) 20) (hX : jxok X) (hs : jScr F X L xs) (hroom : fk F + 1 ≤ (fR F).cells ∧ fn F + 6 ≤ (fR F).slots) (i : Nat) (hi : i + 5 ≤ L) (m : jM) (hR : Rel m) (k : ∀ m9 : jM, Rel m9 → jG (fup F (fk F + 1) (fn F + 6)) X m9 3451 (lw0 i) []) : jG F X m 256 (lw0 i) [] := by
  have hF2 := hF.up (k := fk F + 1) (n := fn F + 6) hroom.1 hroom.2
  obtain ⟨c, Q, hc, hW, hM⟩ := st_put X hX (sx xs ((i : Int) + 1)) (sx_r _ _) (sx xs ((i : Int) + 2)) (sx_r _ _) (sx xs ((i : Int) + 3)) (sx_r _ _) m hR
  refine g_aload_n hF (by decide +kernel : decode cL_law 256 = .ok (.aload_n 1, 1)) rfl ?_
  refine g_aload_n hF (by decide +kernel : decode cL_law 257 = .ok (.aload_n 0, 1)) rfl ?_
  refine g_iload hF (by decide +kernel : decode cL_law 258 = .ok (.iload 5, 2)) rfl ?_
  refine g_iconst hF (by decide +kernel : decode cL_law 260 = .ok (.iconst 1, 1)) ?_
  refine g_iadd hF (by decide +kernel : decode cL_law 261 = .ok (.iadd, 1)) ?_
  refine g_sld hF hs (by decide +kernel : decode cL_law 262 = .ok (.iaload, 1)) ?_ ?_
  · exact ⟨by first | omega | (show (0 : Int) ≤ (i : Int) + _; omega), by first | omega | (show (i : Int) + _ < (L : Int); omega)⟩
  refine g_aload_n hF (by decide +kernel : decode cL_law 263 = .ok (.aload_n 0, 1)) rfl ?_
  refine g_iload hF (by decide +kernel : decode cL_law 264 = .ok (.iload 5, 2)) rfl ?_
  refine g_iconst hF (by decide +kernel : decode cL_law 266 = .ok (.iconst 2, 1)) ?_
  refine g_iadd hF (by decide +kernel : decode cL_law 267 = .ok (.iadd, 1)) ?_
  refine g_sld hF hs (by decide +kernel : decode cL_law 268 = .ok (.iaload, 1)) ?_ ?_
  · exact ⟨by first | omega | (show (0 : Int) ≤ (i : Int) + _; omega), by first | omega | (show (i : Int) + _ < (L : Int); omega)⟩
  refine g_aload_n hF (by decide +kernel : decode cL_law 269 = .ok (.aload_n 0, 1)) rfl ?_
  refine g_iload hF (by decide +kernel : decode cL_law 270 = .ok (.iload 5, 2)) rfl ?_
  refine g_iconst hF (by decide +kernel : decode cL_law 272 = .ok (.iconst 3, 1)) ?_
  refine g_iadd hF (by decide +kernel : decode cL_law 273 = .ok (.iadd, 1)) ?_
  refine g_sld hF hs (by decide +kernel : decode cL_law 274 = .ok (.iaload, 1)) ?_ ?_
  · exact ⟨by first | omega | (show (0 : Int) ≤ (i : Int) + _; omega), by first | omega | (show (i : Int) + _ < (L : Int); omega)⟩
  refine g_aload_n hF (by decide +kernel : decode cL_law 275 = .ok (.aload_n 3, 1)) rfl ?_
  refine g_callL hF lkL_170 hW (by decide +kernel : decode cL_law 276 = .ok (.invokestatic 170, 3)) (by decide) rfl rfl (Nat.le_of_ble_eq_true rfl) hroom (fun v1 m1 h1 => ?_)
  obtain ⟨rfl, hq⟩ := h1
  refine g_istore hF2 (by decide +kernel : decode cL_law 279 = .ok (.istore 6, 2)) (by decide) ?_
  refine g_aload_n hF2 (by decide +kernel : decode cL_law 281 = .ok (.aload_n 2, 1)) rfl ?_
  refine g_aload_n hF2 (by decide +kernel : decode cL_law 282 = .ok (.aload_n 0, 1)) rfl ?_
  refine g_iload hF2 (by decide +kernel : decode cL_law 283 = .ok (.iload 5, 2)) rfl ?_
  refine g_iconst hF2 (by decide +kernel : decode cL_law 285 = .ok (.iconst 1, 1)) ?_
  refine g_iadd hF2 (by decide +kernel : decode cL_law 286 = .ok (.iadd, 1)) ?_
  refine g_sld hF2 hs (by decide +kernel : decode cL_law 287 = .ok (.iaload, 1)) ?_ ?_
  · exact ⟨by first | omega | (show (0 : Int) ≤ (i : Int) + _; omega), by first | omega | (show (i : Int) + _ < (L : Int); omega)⟩
  refine g_aload_n hF2 (by decide +kernel : decode cL_law 288 = .ok (.aload_n 0, 1)) rfl ?_
  refine g_iload hF2 (by decide +kernel : decode cL_law 289 = .ok (.iload 5, 2)) rfl ?_
  refine g_iconst hF2 (by decide +kernel : decode cL_law 291 = .ok (.iconst 2, 1)) ?_
  refine g_iadd hF2 (by decide +kernel : decode cL_law 292 = .ok (.iadd, 1)) ?_
  refine g_sld hF2 hs (by decide +kernel : decode cL_law 293 = .ok (.iaload, 1)) ?_ ?_
  · exact ⟨by first | omega | (show (0 : Int) ≤ (i : Int) + _; omega), by first | omega | (show (i : Int) + _ < (L : Int); omega)⟩
  refine g_aload_n hF2 (by decide +kernel : decode cL_law 294 = .ok (.aload_n 0, 1)) rfl ?_
  refine g_iload hF2 (by decide +kernel : decode cL_law 295 = .ok (.iload 5, 2)) rfl ?_
  refine g_iconst hF2 (by decide +kernel : decode cL_law 297 = .ok (.iconst 3, 1)) ?_
  refine g_iadd hF2 (by decide +kernel : decode cL_law 298 = .ok (.iadd, 1)) ?_
  refine g_sld hF2 hs (by decide +kernel : decode cL_law 299 = .ok (.iaload, 1)) ?_ ?_
  · exact ⟨by first | omega | (show (0 : Int) ≤ (i : Int) + _; omega), by first | omega | (show (i : Int) + _ < (L : Int); omega)⟩
  refine g_callV hF2 lkL_175 (hM m1 hq) (by decide +kernel : decode cL_law 300 = .ok (.invokevirtual 175, 3)) (by decide) rfl rfl rfl rfl jok51 (Nat.le_of_ble_eq_true rfl) (fun v2 m2 h2 => ?_)
  obtain ⟨e1, e2, ⟨b, rfl⟩, e4⟩ := h2
  refine g_istore hF2 (by decide +kernel : decode cL_law 303 = .ok (.istore 7, 2)) (by decide) ?_
  refine g_aload_n hF2 (by decide +kernel : decode cL_law 305 = .ok (.aload_n 2, 1)) rfl ?_
  refine g_callV hF2 lkL_176 (c_X5_thrown X hX _) (by decide +kernel : decode cL_law 306 = .ok (.invokevirtual 176, 3)) (by decide) rfl rfl rfl rfl jok51 (Nat.le_of_ble_eq_true rfl) (fun v3 m3 h3 => ?_)
  obtain ⟨rfl, e3⟩ := h3
  obtain rfl := e3.symm
  rw [e1]
  refine g_iload hF2 (by decide +kernel : decode cL_law 309 = .ok (.iload 6, 2)) rfl ?_
  refine g_icmp_eq hF2 (tgt := 316) (by decide +kernel : decode cL_law 311 = .ok (.if_icmp .eq 5, 3)) (by decide) (by omega) (by omega) (fun c311 => ?_) (fun c311 => absurd rfl c311)
  refine g_iload hF2 (by decide +kernel : decode cL_law 316 = .ok (.iload 6, 2)) rfl ?_
  refine g_if_ne hF2 (tgt := 333) (by decide +kernel : decode cL_law 318 = .ok (.ifCond .ne 15, 3)) (by decide) (by omega) (fun c318 => ?_) (fun c318 => ?_)
  · skip
    refine g_goto hF2 (tgt := 3451) (by decide +kernel : decode cL_law 333 = .ok (.goto 3118, 3)) (by decide) ?_
    refine g_take 6 ?_
    exact k _ e2
  · skip
    obtain ⟨b2, hb2, hv⟩ := e4 c318
    cases hb2
    refine g_aload_n hF2 (by decide +kernel : decode cL_law 321 = .ok (.aload_n 3, 1)) rfl ?_
    refine g_iconst hF2 (by decide +kernel : decode cL_law 322 = .ok (.iconst 0, 1)) ?_
    refine g_laload hF2 (by decide +kernel : decode cL_law 323 = .ok (.laload, 1)) ?_
    rw [hv]
    refine g_iload hF2 (by decide +kernel : decode cL_law 324 = .ok (.iload 7, 2)) rfl ?_
    refine g_i2lN hF2 (by decide +kernel : decode cL_law 326 = .ok (.i2l, 1)) ?_
    refine g_lcmpE hF2 (by decide +kernel : decode cL_law 327 = .ok (.lcmp, 1)) rfl ?_
    refine g_if_eq hF2 (tgt := 333) (by decide +kernel : decode cL_law 328 = .ok (.ifCond .eq 5, 3)) (by decide) (by decide) (fun c328 => ?_) (fun c328 => absurd rfl c328)
    refine g_goto hF2 (tgt := 3451) (by decide +kernel : decode cL_law 333 = .ok (.goto 3118, 3)) (by decide) ?_
    refine g_take 6 ?_
    exact k _ e2
set_option maxHeartbeats 4000000 in
set_option maxRecDepth 100000 in
theorem lb_3 {F : jF} {X : jX} {L : Nat} {xs : Nat → Int32} (hF : jOk F X RL cL_law 10 (some .boolean) 20) (hX : jxok X) (hs : jScr F X L xs) (hroom : fk F + 1 ≤ (fR F).cells ∧ fn F + 6 ≤ (fR F).slots) (i : Nat) (hi : i + 5 ≤ L) (m : jM) (hR : Rel m) (k : ∀ m9 : jM, Rel m9 → jG (fup F (fk F + 1) (fn F + 6)) X m9 3451 (lw0 i) []) : jG F X m 496 (lw0 i) [] := by
  have hF2 := hF.up (k := fk F + 1) (n := fn F + 6) hroom.1 hroom.2
  obtain ⟨c, Q, hc, hW, hM⟩ := st_changeIf X hX (sx xs ((i : Int) + 1)) (sx_r _ _) (sx xs ((i : Int) + 2)) (sx_r _ _) (sx xs ((i : Int) + 3)) (sx_r _ _) (sx xs ((i : Int) + 4)) (sx_r _ _) m hR
  refine g_aload_n hF (by decide +kernel : decode cL_law 496 = .ok (.aload_n 1, 1)) rfl ?_
  refine g_aload_n hF (by decide +kernel : decode cL_law 497 = .ok (.aload_n 0, 1)) rfl ?_
  refine g_iload hF (by decide +kernel : decode cL_law 498 = .ok (.iload 5, 2)) rfl ?_
  refine g_iconst hF (by decide +kernel : decode cL_law 500 = .ok (.iconst 1, 1)) ?_
  refine g_iadd hF (by decide +kernel : decode cL_law 501 = .ok (.iadd, 1)) ?_
  refine g_sld hF hs (by decide +kernel : decode cL_law 502 = .ok (.iaload, 1)) ?_ ?_
  · exact ⟨by first | omega | (show (0 : Int) ≤ (i : Int) + _; omega), by first | omega | (show (i : Int) + _ < (L : Int); omega)⟩
  refine g_aload_n hF (by decide +kernel : decode cL_law 503 = .ok (.aload_n 0, 1)) rfl ?_
  refine g_iload hF (by decide +kernel : decode cL_law 504 = .ok (.iload 5, 2)) rfl ?_
  refine g_iconst hF (by decide +kernel : decode cL_law 506 = .ok (.iconst 2, 1)) ?_
  refine g_iadd hF (by decide +kernel : decode cL_law 507 = .ok (.iadd, 1)) ?_
  refine g_sld hF hs (by decide +kernel : decode cL_law 508 = .ok (.iaload, 1)) ?_ ?_
  · exact ⟨by first | omega | (show (0 : Int) ≤ (i : Int) + _; omega), by first | omega | (show (i : Int) + _ < (L : Int); omega)⟩
  refine g_aload_n hF (by decide +kernel : decode cL_law 509 = .ok (.aload_n 0, 1)) rfl ?_
  refine g_iload hF (by decide +kernel : decode cL_law 510 = .ok (.iload 5, 2)) rfl ?_
  refine g_iconst hF (by decide +kernel : decode cL_law 512 = .ok (.iconst 3, 1)) ?_
  refine g_iadd hF (by decide +kernel : decode cL_law 513 = .ok (.iadd, 1)) ?_
  refine g_sld hF hs (by decide +kernel : decode cL_law 514 = .ok (.iaload, 1)) ?_ ?_
  · exact ⟨by first | omega | (show (0 : Int) ≤ (i : Int) + _; omega), by first | omega | (show (i : Int) + _ < (L : Int); omega)⟩
  refine g_aload_n hF (by decide +kernel : decode cL_law 515 = .ok (.aload_n 0, 1)) rfl ?_
  refine g_iload hF (by decide +kernel : decode cL_law 516 = .ok (.iload 5, 2)) rfl ?_
  refine g_iconst hF (by decide +kernel : decode cL_law 518 = .ok (.iconst 4, 1)) ?_
  refine g_iadd hF (by decide +kernel : decode cL_law 519 = .ok (.iadd, 1)) ?_
  refine g_sld hF hs (by decide +kernel : decode cL_law 520 = .ok (.iaload, 1)) ?_ ?_
  · exact ⟨by first | omega | (show (0 : Int) ≤ (i : Int) + _; omega), by first | omega | (show (i : Int) + _ < (L : Int); omega)⟩
  refine g_aload_n hF (by decide +kernel : decode cL_law 521 = .ok (.aload_n 3, 1)) rfl ?_
  refine g_callL hF lkL_185 hW (by decide +kernel : decode cL_law 522 = .ok (.invokestatic 185, 3)) (by decide) rfl rfl (Nat.le_of_ble_eq_true rfl) hroom (fun v1 m1 h1 => ?_)
  obtain ⟨rfl, hq⟩ := h1
  refine g_istore hF2 (by decide +kernel : decode cL_law 525 = .ok (.istore 6, 2)) (by decide) ?_
  refine g_aload_n hF2 (by decide +kernel : decode cL_law 527 = .ok (.aload_n 2, 1)) rfl ?_
  refine g_aload_n hF2 (by decide +kernel : decode cL_law 528 = .ok (.aload_n 0, 1)) rfl ?_
  refine g_iload hF2 (by decide +kernel : decode cL_law 529 = .ok (.iload 5, 2)) rfl ?_
  refine g_iconst hF2 (by decide +kernel : decode cL_law 531 = .ok (.iconst 1, 1)) ?_
  refine g_iadd hF2 (by decide +kernel : decode cL_law 532 = .ok (.iadd, 1)) ?_
  refine g_sld hF2 hs (by decide +kernel : decode cL_law 533 = .ok (.iaload, 1)) ?_ ?_
  · exact ⟨by first | omega | (show (0 : Int) ≤ (i : Int) + _; omega), by first | omega | (show (i : Int) + _ < (L : Int); omega)⟩
  refine g_aload_n hF2 (by decide +kernel : decode cL_law 534 = .ok (.aload_n 0, 1)) rfl ?_
  refine g_iload hF2 (by decide +kernel : decode cL_law 535 = .ok (.iload 5, 2)) rfl ?_
  refine g_iconst hF2 (by decide +kernel : decode cL_law 537 = .ok (.iconst 2, 1)) ?_
  refine g_iadd hF2 (by decide +kernel : decode cL_law 538 = .ok (.iadd, 1)) ?_
  refine g_sld hF2 hs (by decide +kernel : decode cL_law 539 = .ok (.iaload, 1)) ?_ ?_
  · exact ⟨by first | omega | (show (0 : Int) ≤ (i : Int) + _; omega), by first | omega | (show (i : Int) + _ < (L : Int); omega)⟩
  refine g_aload_n hF2 (by decide +kernel : decode cL_law 540 = .ok (.aload_n 0, 1)) rfl ?_
  refine g_iload hF2 (by decide +kernel : decode cL_law 541 = .ok (.iload 5, 2)) rfl ?_
  refine g_iconst hF2 (by decide +kernel : decode cL_law 543 = .ok (.iconst 3, 1)) ?_
  refine g_iadd hF2 (by decide +kernel : decode cL_law 544 = .ok (.iadd, 1)) ?_
  refine g_sld hF2 hs (by decide +kernel : decode cL_law 545 = .ok (.iaload, 1)) ?_ ?_
  · exact ⟨by first | omega | (show (0 : Int) ≤ (i : Int) + _; omega), by first | omega | (show (i : Int) + _ < (L : Int); omega)⟩
  refine g_aload_n hF2 (by decide +kernel : decode cL_law 546 = .ok (.aload_n 0, 1)) rfl ?_
  refine g_iload hF2 (by decide +kernel : decode cL_law 547 = .ok (.iload 5, 2)) rfl ?_
  refine g_iconst hF2 (by decide +kernel : decode cL_law 549 = .ok (.iconst 4, 1)) ?_
  refine g_iadd hF2 (by decide +kernel : decode cL_law 550 = .ok (.iadd, 1)) ?_
  refine g_sld hF2 hs (by decide +kernel : decode cL_law 551 = .ok (.iaload, 1)) ?_ ?_
  · exact ⟨by first | omega | (show (0 : Int) ≤ (i : Int) + _; omega), by first | omega | (show (i : Int) + _ < (L : Int); omega)⟩
  refine g_callV hF2 lkL_188 (hM m1 hq) (by decide +kernel : decode cL_law 552 = .ok (.invokevirtual 188, 3)) (by decide) rfl rfl rfl rfl jok51 (Nat.le_of_ble_eq_true rfl) (fun v2 m2 h2 => ?_)
  obtain ⟨e1, e2, ⟨b, rfl, hb⟩, e4⟩ := h2
  refine g_istore hF2 (by decide +kernel : decode cL_law 555 = .ok (.istore 7, 2)) (by decide) ?_
  refine g_aload_n hF2 (by decide +kernel : decode cL_law 557 = .ok (.aload_n 2, 1)) rfl ?_
  refine g_callV hF2 lkL_176 (c_X5_thrown X hX _) (by decide +kernel : decode cL_law 558 = .ok (.invokevirtual 176, 3)) (by decide) rfl rfl rfl rfl jok51 (Nat.le_of_ble_eq_true rfl) (fun v3 m3 h3 => ?_)
  obtain ⟨rfl, e3⟩ := h3
  obtain rfl := e3.symm
  rw [e1]
  refine g_iload hF2 (by decide +kernel : decode cL_law 561 = .ok (.iload 6, 2)) rfl ?_
  refine g_icmp_eq hF2 (tgt := 568) (by decide +kernel : decode cL_law 563 = .ok (.if_icmp .eq 5, 3)) (by decide) (by omega) (by omega) (fun c563 => ?_) (fun c563 => absurd rfl c563)
  refine g_iload hF2 (by decide +kernel : decode cL_law 568 = .ok (.iload 6, 2)) rfl ?_
  refine g_if_ne hF2 (tgt := 592) (by decide +kernel : decode cL_law 570 = .ok (.ifCond .ne 22, 3)) (by decide) (by omega) (fun c570 => ?_) (fun c570 => ?_)
  · skip
    refine g_goto hF2 (tgt := 3451) (by decide +kernel : decode cL_law 592 = .ok (.goto 2859, 3)) (by decide) ?_
    refine g_take 6 ?_
    exact k _ e2
  · skip
    obtain ⟨b2, hb2, -, hv⟩ := e4 c570
    cases hb2
    rcases hb with rfl | rfl
    · skip
      refine g_aload_n hF2 (by decide +kernel : decode cL_law 573 = .ok (.aload_n 3, 1)) rfl ?_
      refine g_iconst hF2 (by decide +kernel : decode cL_law 574 = .ok (.iconst 0, 1)) ?_
      refine g_laload hF2 (by decide +kernel : decode cL_law 575 = .ok (.laload, 1)) ?_
      rw [hv]
      refine g_iload hF2 (by decide +kernel : decode cL_law 576 = .ok (.iload 7, 2)) rfl ?_
      refine g_if_eq hF2 (tgt := 585) (by decide +kernel : decode cL_law 578 = .ok (.ifCond .eq 7, 3)) (by decide) (by decide) (fun c578 => ?_) (fun c578 => absurd rfl c578)
      refine g_lconst hF2 (by decide +kernel : decode cL_law 585 = .ok (.lconst 0, 1)) rfl ?_
      refine g_lcmpE hF2 (by decide +kernel : decode cL_law 586 = .ok (.lcmp, 1)) rfl ?_
      refine g_if_eq hF2 (tgt := 592) (by decide +kernel : decode cL_law 587 = .ok (.ifCond .eq 5, 3)) (by decide) (by decide) (fun c587 => ?_) (fun c587 => absurd rfl c587)
      refine g_goto hF2 (tgt := 3451) (by decide +kernel : decode cL_law 592 = .ok (.goto 2859, 3)) (by decide) ?_
      refine g_take 6 ?_
      exact k _ e2
    · skip
      refine g_aload_n hF2 (by decide +kernel : decode cL_law 573 = .ok (.aload_n 3, 1)) rfl ?_
      refine g_iconst hF2 (by decide +kernel : decode cL_law 574 = .ok (.iconst 0, 1)) ?_
      refine g_laload hF2 (by decide +kernel : decode cL_law 575 = .ok (.laload, 1)) ?_
      rw [hv]
      refine g_iload hF2 (by decide +kernel : decode cL_law 576 = .ok (.iload 7, 2)) rfl ?_
      refine g_if_eq hF2 (tgt := 585) (by decide +kernel : decode cL_law 578 = .ok (.ifCond .eq 7, 3)) (by decide) (by decide) (fun c578 => absurd c578 (by decide)) (fun c578 => ?_)
      refine g_lconst hF2 (by decide +kernel : decode cL_law 581 = .ok (.lconst 1, 1)) rfl ?_
      refine g_goto hF2 (tgt := 586) (by decide +kernel : decode cL_law 582 = .ok (.goto 4, 3)) (by decide) ?_
      refine g_lcmpE hF2 (by decide +kernel : decode cL_law 586 = .ok (.lcmp, 1)) rfl ?_
      refine g_if_eq hF2 (tgt := 592) (by decide +kernel : decode cL_law 587 = .ok (.ifCond .eq 5, 3)) (by decide) (by decide) (fun c587 => ?_) (fun c587 => absurd rfl c587)
      refine g_goto hF2 (tgt := 3451) (by decide +kernel : decode cL_law 592 = .ok (.goto 2859, 3)) (by decide) ?_
      refine g_take 6 ?_
      exact k _ e2
set_option maxHeartbeats 4000000 in
set_option maxRecDepth 100000 in
theorem lb_6 {F : jF} {X : jX} {L : Nat} {xs : Nat → Int32} (hF : jOk F X RL cL_law 10 (some .boolean) 20) (hX : jxok X) (hs : jScr F X L xs) (hroom : fk F + 1 ≤ (fR F).cells ∧ fn F + 6 ≤ (fR F).slots) (i : Nat) (hi : i + 5 ≤ L) (m : jM) (hR : Rel m) (k : ∀ m9 : jM, Rel m9 → jG (fup F (fk F + 1) (fn F + 6)) X m9 3451 (lw0 i) []) : jG F X m 750 (lw0 i) [] := by
  have hF2 := hF.up (k := fk F + 1) (n := fn F + 6) hroom.1 hroom.2
  obtain ⟨c, Q, hc, hW, hM⟩ := st_merge X hX (sx xs ((i : Int) + 1)) (sx_r _ _) (sx xs ((i : Int) + 2)) (sx_r _ _) (sx xs ((i : Int) + 3)) (sx_r _ _) ((sx xs ((i : Int) + 4)) % 65536) (by have q := sx_r xs ((i : Int) + 4); omega) m hR
  refine g_aload_n hF (by decide +kernel : decode cL_law 750 = .ok (.aload_n 1, 1)) rfl ?_
  refine g_aload_n hF (by decide +kernel : decode cL_law 751 = .ok (.aload_n 0, 1)) rfl ?_
  refine g_iload hF (by decide +kernel : decode cL_law 752 = .ok (.iload 5, 2)) rfl ?_
  refine g_iconst hF (by decide +kernel : decode cL_law 754 = .ok (.iconst 1, 1)) ?_
  refine g_iadd hF (by decide +kernel : decode cL_law 755 = .ok (.iadd, 1)) ?_
  refine g_sld hF hs (by decide +kernel : decode cL_law 756 = .ok (.iaload, 1)) ?_ ?_
  · exact ⟨by first | omega | (show (0 : Int) ≤ (i : Int) + _; omega), by first | omega | (show (i : Int) + _ < (L : Int); omega)⟩
  refine g_aload_n hF (by decide +kernel : decode cL_law 757 = .ok (.aload_n 0, 1)) rfl ?_
  refine g_iload hF (by decide +kernel : decode cL_law 758 = .ok (.iload 5, 2)) rfl ?_
  refine g_iconst hF (by decide +kernel : decode cL_law 760 = .ok (.iconst 2, 1)) ?_
  refine g_iadd hF (by decide +kernel : decode cL_law 761 = .ok (.iadd, 1)) ?_
  refine g_sld hF hs (by decide +kernel : decode cL_law 762 = .ok (.iaload, 1)) ?_ ?_
  · exact ⟨by first | omega | (show (0 : Int) ≤ (i : Int) + _; omega), by first | omega | (show (i : Int) + _ < (L : Int); omega)⟩
  refine g_aload_n hF (by decide +kernel : decode cL_law 763 = .ok (.aload_n 0, 1)) rfl ?_
  refine g_iload hF (by decide +kernel : decode cL_law 764 = .ok (.iload 5, 2)) rfl ?_
  refine g_iconst hF (by decide +kernel : decode cL_law 766 = .ok (.iconst 3, 1)) ?_
  refine g_iadd hF (by decide +kernel : decode cL_law 767 = .ok (.iadd, 1)) ?_
  refine g_sld hF hs (by decide +kernel : decode cL_law 768 = .ok (.iaload, 1)) ?_ ?_
  · exact ⟨by first | omega | (show (0 : Int) ≤ (i : Int) + _; omega), by first | omega | (show (i : Int) + _ < (L : Int); omega)⟩
  refine g_aload_n hF (by decide +kernel : decode cL_law 769 = .ok (.aload_n 0, 1)) rfl ?_
  refine g_iload hF (by decide +kernel : decode cL_law 770 = .ok (.iload 5, 2)) rfl ?_
  refine g_iconst hF (by decide +kernel : decode cL_law 772 = .ok (.iconst 4, 1)) ?_
  refine g_iadd hF (by decide +kernel : decode cL_law 773 = .ok (.iadd, 1)) ?_
  refine g_sld hF hs (by decide +kernel : decode cL_law 774 = .ok (.iaload, 1)) ?_ ?_
  · exact ⟨by first | omega | (show (0 : Int) ≤ (i : Int) + _; omega), by first | omega | (show (i : Int) + _ < (L : Int); omega)⟩
  refine g_i2c hF (by decide +kernel : decode cL_law 775 = .ok (.i2c, 1)) ?_
  refine g_aload_n hF (by decide +kernel : decode cL_law 776 = .ok (.aload_n 3, 1)) rfl ?_
  refine g_callL hF lkL_196 hW (by decide +kernel : decode cL_law 777 = .ok (.invokestatic 196, 3)) (by decide) rfl rfl (Nat.le_of_ble_eq_true rfl) hroom (fun v1 m1 h1 => ?_)
  obtain ⟨rfl, hq⟩ := h1
  refine g_istore hF2 (by decide +kernel : decode cL_law 780 = .ok (.istore 6, 2)) (by decide) ?_
  refine g_aload_n hF2 (by decide +kernel : decode cL_law 782 = .ok (.aload_n 2, 1)) rfl ?_
  refine g_aload_n hF2 (by decide +kernel : decode cL_law 783 = .ok (.aload_n 0, 1)) rfl ?_
  refine g_iload hF2 (by decide +kernel : decode cL_law 784 = .ok (.iload 5, 2)) rfl ?_
  refine g_iconst hF2 (by decide +kernel : decode cL_law 786 = .ok (.iconst 1, 1)) ?_
  refine g_iadd hF2 (by decide +kernel : decode cL_law 787 = .ok (.iadd, 1)) ?_
  refine g_sld hF2 hs (by decide +kernel : decode cL_law 788 = .ok (.iaload, 1)) ?_ ?_
  · exact ⟨by first | omega | (show (0 : Int) ≤ (i : Int) + _; omega), by first | omega | (show (i : Int) + _ < (L : Int); omega)⟩
  refine g_aload_n hF2 (by decide +kernel : decode cL_law 789 = .ok (.aload_n 0, 1)) rfl ?_
  refine g_iload hF2 (by decide +kernel : decode cL_law 790 = .ok (.iload 5, 2)) rfl ?_
  refine g_iconst hF2 (by decide +kernel : decode cL_law 792 = .ok (.iconst 2, 1)) ?_
  refine g_iadd hF2 (by decide +kernel : decode cL_law 793 = .ok (.iadd, 1)) ?_
  refine g_sld hF2 hs (by decide +kernel : decode cL_law 794 = .ok (.iaload, 1)) ?_ ?_
  · exact ⟨by first | omega | (show (0 : Int) ≤ (i : Int) + _; omega), by first | omega | (show (i : Int) + _ < (L : Int); omega)⟩
  refine g_aload_n hF2 (by decide +kernel : decode cL_law 795 = .ok (.aload_n 0, 1)) rfl ?_
  refine g_iload hF2 (by decide +kernel : decode cL_law 796 = .ok (.iload 5, 2)) rfl ?_
  refine g_iconst hF2 (by decide +kernel : decode cL_law 798 = .ok (.iconst 3, 1)) ?_
  refine g_iadd hF2 (by decide +kernel : decode cL_law 799 = .ok (.iadd, 1)) ?_
  refine g_sld hF2 hs (by decide +kernel : decode cL_law 800 = .ok (.iaload, 1)) ?_ ?_
  · exact ⟨by first | omega | (show (0 : Int) ≤ (i : Int) + _; omega), by first | omega | (show (i : Int) + _ < (L : Int); omega)⟩
  refine g_aload_n hF2 (by decide +kernel : decode cL_law 801 = .ok (.aload_n 0, 1)) rfl ?_
  refine g_iload hF2 (by decide +kernel : decode cL_law 802 = .ok (.iload 5, 2)) rfl ?_
  refine g_iconst hF2 (by decide +kernel : decode cL_law 804 = .ok (.iconst 4, 1)) ?_
  refine g_iadd hF2 (by decide +kernel : decode cL_law 805 = .ok (.iadd, 1)) ?_
  refine g_sld hF2 hs (by decide +kernel : decode cL_law 806 = .ok (.iaload, 1)) ?_ ?_
  · exact ⟨by first | omega | (show (0 : Int) ≤ (i : Int) + _; omega), by first | omega | (show (i : Int) + _ < (L : Int); omega)⟩
  refine g_i2c hF2 (by decide +kernel : decode cL_law 807 = .ok (.i2c, 1)) ?_
  refine g_callV hF2 lkL_199 (hM m1 hq) (by decide +kernel : decode cL_law 808 = .ok (.invokevirtual 199, 3)) (by decide) rfl rfl rfl rfl jok51 (Nat.le_of_ble_eq_true rfl) (fun v2 m2 h2 => ?_)
  obtain ⟨e1, e2, ⟨b, rfl⟩, e4⟩ := h2
  refine g_istore hF2 (by decide +kernel : decode cL_law 811 = .ok (.istore 7, 2)) (by decide) ?_
  refine g_aload_n hF2 (by decide +kernel : decode cL_law 813 = .ok (.aload_n 2, 1)) rfl ?_
  refine g_callV hF2 lkL_176 (c_X5_thrown X hX _) (by decide +kernel : decode cL_law 814 = .ok (.invokevirtual 176, 3)) (by decide) rfl rfl rfl rfl jok51 (Nat.le_of_ble_eq_true rfl) (fun v3 m3 h3 => ?_)
  obtain ⟨rfl, e3⟩ := h3
  obtain rfl := e3.symm
  rw [e1]
  refine g_iload hF2 (by decide +kernel : decode cL_law 817 = .ok (.iload 6, 2)) rfl ?_
  refine g_icmp_eq hF2 (tgt := 824) (by decide +kernel : decode cL_law 819 = .ok (.if_icmp .eq 5, 3)) (by decide) (by omega) (by omega) (fun c819 => ?_) (fun c819 => absurd rfl c819)
  refine g_iload hF2 (by decide +kernel : decode cL_law 824 = .ok (.iload 6, 2)) rfl ?_
  refine g_if_ne hF2 (tgt := 841) (by decide +kernel : decode cL_law 826 = .ok (.ifCond .ne 15, 3)) (by decide) (by omega) (fun c826 => ?_) (fun c826 => ?_)
  · skip
    refine g_goto hF2 (tgt := 3451) (by decide +kernel : decode cL_law 841 = .ok (.goto 2610, 3)) (by decide) ?_
    refine g_take 6 ?_
    exact k _ e2
  · skip
    obtain ⟨b2, hb2, hv⟩ := e4 c826
    cases hb2
    refine g_aload_n hF2 (by decide +kernel : decode cL_law 829 = .ok (.aload_n 3, 1)) rfl ?_
    refine g_iconst hF2 (by decide +kernel : decode cL_law 830 = .ok (.iconst 0, 1)) ?_
    refine g_laload hF2 (by decide +kernel : decode cL_law 831 = .ok (.laload, 1)) ?_
    rw [hv]
    refine g_iload hF2 (by decide +kernel : decode cL_law 832 = .ok (.iload 7, 2)) rfl ?_
    refine g_i2lN hF2 (by decide +kernel : decode cL_law 834 = .ok (.i2l, 1)) ?_
    refine g_lcmpE hF2 (by decide +kernel : decode cL_law 835 = .ok (.lcmp, 1)) rfl ?_
    refine g_if_eq hF2 (tgt := 841) (by decide +kernel : decode cL_law 836 = .ok (.ifCond .eq 5, 3)) (by decide) (by decide) (fun c836 => ?_) (fun c836 => absurd rfl c836)
    refine g_goto hF2 (tgt := 3451) (by decide +kernel : decode cL_law 841 = .ok (.goto 2610, 3)) (by decide) ?_
    refine g_take 6 ?_
    exact k _ e2
set_option maxHeartbeats 4000000 in
set_option maxRecDepth 100000 in
theorem lb_11 {F : jF} {X : jX} {L : Nat} {xs : Nat → Int32} (hF : jOk F X RL cL_law 10 (some .boolean) 20) (hX : jxok X) (hs : jScr F X L xs) (hroom : fk F + 1 ≤ (fR F).cells ∧ fn F + 6 ≤ (fR F).slots) (i : Nat) (hi : i + 5 ≤ L) (m : jM) (hR : Rel m) (k : ∀ m9 : jM, Rel m9 → jG (fup F (fk F + 1) (fn F + 6)) X m9 3451 (lw0 i) []) : jG F X m 1130 (lw0 i) [] := by
  have hF2 := hF.up (k := fk F + 1) (n := fn F + 6) hroom.1 hroom.2
  obtain ⟨c, Q, hc, hW, hM⟩ := st_has X hX (sx xs ((i : Int) + 1)) (sx_r _ _) (sx xs ((i : Int) + 2)) (sx_r _ _) m hR
  refine g_aload_n hF (by decide +kernel : decode cL_law 1130 = .ok (.aload_n 1, 1)) rfl ?_
  refine g_aload_n hF (by decide +kernel : decode cL_law 1131 = .ok (.aload_n 0, 1)) rfl ?_
  refine g_iload hF (by decide +kernel : decode cL_law 1132 = .ok (.iload 5, 2)) rfl ?_
  refine g_iconst hF (by decide +kernel : decode cL_law 1134 = .ok (.iconst 1, 1)) ?_
  refine g_iadd hF (by decide +kernel : decode cL_law 1135 = .ok (.iadd, 1)) ?_
  refine g_sld hF hs (by decide +kernel : decode cL_law 1136 = .ok (.iaload, 1)) ?_ ?_
  · exact ⟨by first | omega | (show (0 : Int) ≤ (i : Int) + _; omega), by first | omega | (show (i : Int) + _ < (L : Int); omega)⟩
  refine g_aload_n hF (by decide +kernel : decode cL_law 1137 = .ok (.aload_n 0, 1)) rfl ?_
  refine g_iload hF (by decide +kernel : decode cL_law 1138 = .ok (.iload 5, 2)) rfl ?_
  refine g_iconst hF (by decide +kernel : decode cL_law 1140 = .ok (.iconst 2, 1)) ?_
  refine g_iadd hF (by decide +kernel : decode cL_law 1141 = .ok (.iadd, 1)) ?_
  refine g_sld hF hs (by decide +kernel : decode cL_law 1142 = .ok (.iaload, 1)) ?_ ?_
  · exact ⟨by first | omega | (show (0 : Int) ≤ (i : Int) + _; omega), by first | omega | (show (i : Int) + _ < (L : Int); omega)⟩
  refine g_aload_n hF (by decide +kernel : decode cL_law 1143 = .ok (.aload_n 3, 1)) rfl ?_
  refine g_callL hF lkL_214 hW (by decide +kernel : decode cL_law 1144 = .ok (.invokestatic 214, 3)) (by decide) rfl rfl (Nat.le_of_ble_eq_true rfl) hroom (fun v1 m1 h1 => ?_)
  obtain ⟨rfl, hq⟩ := h1
  refine g_istore hF2 (by decide +kernel : decode cL_law 1147 = .ok (.istore 6, 2)) (by decide) ?_
  refine g_aload_n hF2 (by decide +kernel : decode cL_law 1149 = .ok (.aload_n 2, 1)) rfl ?_
  refine g_aload_n hF2 (by decide +kernel : decode cL_law 1150 = .ok (.aload_n 0, 1)) rfl ?_
  refine g_iload hF2 (by decide +kernel : decode cL_law 1151 = .ok (.iload 5, 2)) rfl ?_
  refine g_iconst hF2 (by decide +kernel : decode cL_law 1153 = .ok (.iconst 1, 1)) ?_
  refine g_iadd hF2 (by decide +kernel : decode cL_law 1154 = .ok (.iadd, 1)) ?_
  refine g_sld hF2 hs (by decide +kernel : decode cL_law 1155 = .ok (.iaload, 1)) ?_ ?_
  · exact ⟨by first | omega | (show (0 : Int) ≤ (i : Int) + _; omega), by first | omega | (show (i : Int) + _ < (L : Int); omega)⟩
  refine g_aload_n hF2 (by decide +kernel : decode cL_law 1156 = .ok (.aload_n 0, 1)) rfl ?_
  refine g_iload hF2 (by decide +kernel : decode cL_law 1157 = .ok (.iload 5, 2)) rfl ?_
  refine g_iconst hF2 (by decide +kernel : decode cL_law 1159 = .ok (.iconst 2, 1)) ?_
  refine g_iadd hF2 (by decide +kernel : decode cL_law 1160 = .ok (.iadd, 1)) ?_
  refine g_sld hF2 hs (by decide +kernel : decode cL_law 1161 = .ok (.iaload, 1)) ?_ ?_
  · exact ⟨by first | omega | (show (0 : Int) ≤ (i : Int) + _; omega), by first | omega | (show (i : Int) + _ < (L : Int); omega)⟩
  refine g_callV hF2 lkL_216 (hM m1 hq) (by decide +kernel : decode cL_law 1162 = .ok (.invokevirtual 216, 3)) (by decide) rfl rfl rfl rfl jok51 (Nat.le_of_ble_eq_true rfl) (fun v2 m2 h2 => ?_)
  obtain ⟨e1, e2, ⟨b, rfl, hb⟩, e4⟩ := h2
  refine g_istore hF2 (by decide +kernel : decode cL_law 1165 = .ok (.istore 7, 2)) (by decide) ?_
  refine g_aload_n hF2 (by decide +kernel : decode cL_law 1167 = .ok (.aload_n 2, 1)) rfl ?_
  refine g_callV hF2 lkL_176 (c_X5_thrown X hX _) (by decide +kernel : decode cL_law 1168 = .ok (.invokevirtual 176, 3)) (by decide) rfl rfl rfl rfl jok51 (Nat.le_of_ble_eq_true rfl) (fun v3 m3 h3 => ?_)
  obtain ⟨rfl, e3⟩ := h3
  obtain rfl := e3.symm
  rw [e1]
  refine g_iload hF2 (by decide +kernel : decode cL_law 1171 = .ok (.iload 6, 2)) rfl ?_
  refine g_icmp_eq hF2 (tgt := 1178) (by decide +kernel : decode cL_law 1173 = .ok (.if_icmp .eq 5, 3)) (by decide) (by omega) (by omega) (fun c1173 => ?_) (fun c1173 => absurd rfl c1173)
  refine g_iload hF2 (by decide +kernel : decode cL_law 1178 = .ok (.iload 6, 2)) rfl ?_
  refine g_if_ne hF2 (tgt := 1202) (by decide +kernel : decode cL_law 1180 = .ok (.ifCond .ne 22, 3)) (by decide) (by omega) (fun c1180 => ?_) (fun c1180 => ?_)
  · skip
    refine g_goto hF2 (tgt := 3451) (by decide +kernel : decode cL_law 1202 = .ok (.goto 2249, 3)) (by decide) ?_
    refine g_take 6 ?_
    exact k _ e2
  · skip
    obtain ⟨b2, hb2, -, hv⟩ := e4 c1180
    cases hb2
    rcases hb with rfl | rfl
    · skip
      refine g_aload_n hF2 (by decide +kernel : decode cL_law 1183 = .ok (.aload_n 3, 1)) rfl ?_
      refine g_iconst hF2 (by decide +kernel : decode cL_law 1184 = .ok (.iconst 0, 1)) ?_
      refine g_laload hF2 (by decide +kernel : decode cL_law 1185 = .ok (.laload, 1)) ?_
      rw [hv]
      refine g_iload hF2 (by decide +kernel : decode cL_law 1186 = .ok (.iload 7, 2)) rfl ?_
      refine g_if_eq hF2 (tgt := 1195) (by decide +kernel : decode cL_law 1188 = .ok (.ifCond .eq 7, 3)) (by decide) (by decide) (fun c1188 => ?_) (fun c1188 => absurd rfl c1188)
      refine g_lconst hF2 (by decide +kernel : decode cL_law 1195 = .ok (.lconst 0, 1)) rfl ?_
      refine g_lcmpE hF2 (by decide +kernel : decode cL_law 1196 = .ok (.lcmp, 1)) rfl ?_
      refine g_if_eq hF2 (tgt := 1202) (by decide +kernel : decode cL_law 1197 = .ok (.ifCond .eq 5, 3)) (by decide) (by decide) (fun c1197 => ?_) (fun c1197 => absurd rfl c1197)
      refine g_goto hF2 (tgt := 3451) (by decide +kernel : decode cL_law 1202 = .ok (.goto 2249, 3)) (by decide) ?_
      refine g_take 6 ?_
      exact k _ e2
    · skip
      refine g_aload_n hF2 (by decide +kernel : decode cL_law 1183 = .ok (.aload_n 3, 1)) rfl ?_
      refine g_iconst hF2 (by decide +kernel : decode cL_law 1184 = .ok (.iconst 0, 1)) ?_
      refine g_laload hF2 (by decide +kernel : decode cL_law 1185 = .ok (.laload, 1)) ?_
      rw [hv]
      refine g_iload hF2 (by decide +kernel : decode cL_law 1186 = .ok (.iload 7, 2)) rfl ?_
      refine g_if_eq hF2 (tgt := 1195) (by decide +kernel : decode cL_law 1188 = .ok (.ifCond .eq 7, 3)) (by decide) (by decide) (fun c1188 => absurd c1188 (by decide)) (fun c1188 => ?_)
      refine g_lconst hF2 (by decide +kernel : decode cL_law 1191 = .ok (.lconst 1, 1)) rfl ?_
      refine g_goto hF2 (tgt := 1196) (by decide +kernel : decode cL_law 1192 = .ok (.goto 4, 3)) (by decide) ?_
      refine g_lcmpE hF2 (by decide +kernel : decode cL_law 1196 = .ok (.lcmp, 1)) rfl ?_
      refine g_if_eq hF2 (tgt := 1202) (by decide +kernel : decode cL_law 1197 = .ok (.ifCond .eq 5, 3)) (by decide) (by decide) (fun c1197 => ?_) (fun c1197 => absurd rfl c1197)
      refine g_goto hF2 (tgt := 3451) (by decide +kernel : decode cL_law 1202 = .ok (.goto 2249, 3)) (by decide) ?_
      refine g_take 6 ?_
      exact k _ e2

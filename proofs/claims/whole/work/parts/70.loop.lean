/-! THE LAW'S SWITCH AND LOOP -/
theorem jand_63 (a : Int) : 0 ≤ jand a 63 ∧ jand a 63 ≤ 63 := by
  have e : (Int32.ofInt a &&& Int32.ofInt 63).toBitVec.toNat ≤ 63 := by
    rw [Int32.toBitVec_and, BitVec.toNat_and]
    exact Nat.le_trans Nat.and_le_right (by decide)
  have e2 : jand a 63 = ((Int32.ofInt a &&& Int32.ofInt 63).toBitVec.toNat : Int) := by
    show (Int32.ofInt a &&& Int32.ofInt 63).toBitVec.toInt = _
    exact BitVec.toInt_eq_toNat_of_lt (by omega)
  omega
theorem d_sw : decode cL_law 44 = .ok (.tableswitch 3407 0 48 #[212, 292, 372, 452, 551, 619, 706, 800, 882, 938, 1006, 1086, 1161, 1236, 1292, 1348, 1416, 1491, 1566, 1641, 1697, 1753, 1821, 1877, 1945, 2013, 2093, 2173, 2253, 2333, 2413, 2481, 2561, 2624, 2680, 2748, 2816, 2871, 2939, 2995, 3008, 3064, 3120, 3204, 3217, 3261, 3339, 3380, 3394], 212) := by decide +kernel
set_option maxHeartbeats 4000000 in
set_option maxRecDepth 100000 in
theorem law_sw {F : jF} {X : jX} {L : Nat} {xs : Nat → Int32} (hF : jOk F X RL cL_law 10 (some .boolean) 20) (hX : jxok X) (hs : jScr F X L xs) (hroom : fk F + 1 ≤ (fR F).cells ∧ fn F + 6 ≤ (fR F).slots) (i : Nat) (hi : i + 5 ≤ L) (m : jM) (hR : Rel m) (k : ∀ m9 : jM, Rel m9 → jG (fup F (fk F + 1) (fn F + 6)) X m9 3451 (lw0 i) []) : jG F X m 37 (lw0 i) [] := by
  obtain ⟨hs1, hs2, hs3, hs4⟩ := id hs
  refine g_aload_n hF (by decide +kernel : decode cL_law 37 = .ok (.aload_n 0, 1)) rfl ?_
  refine g_iload hF (by decide +kernel : decode cL_law 38 = .ok (.iload 5, 2)) rfl ?_
  refine g_sld hF hs (by decide +kernel : decode cL_law 40 = .ok (.iaload, 1)) (by omega) ?_
  refine g_bipush hF (by decide +kernel : decode cL_law 41 = .ok (.bipush 63, 2)) (by decide) ?_
  refine g_iand hF (by decide +kernel : decode cL_law 43 = .ok (.iand, 1)) ?_
  have hj := jand_63 (sx xs (i : Int))
  rcases (show jand (sx xs (i : Int)) 63 = 0 ∨ jand (sx xs (i : Int)) 63 = 1 ∨ jand (sx xs (i : Int)) 63 = 2 ∨ jand (sx xs (i : Int)) 63 = 3 ∨ jand (sx xs (i : Int)) 63 = 4 ∨ jand (sx xs (i : Int)) 63 = 5 ∨ jand (sx xs (i : Int)) 63 = 6 ∨ jand (sx xs (i : Int)) 63 = 7 ∨ jand (sx xs (i : Int)) 63 = 8 ∨ jand (sx xs (i : Int)) 63 = 9 ∨ jand (sx xs (i : Int)) 63 = 10 ∨ jand (sx xs (i : Int)) 63 = 11 ∨ jand (sx xs (i : Int)) 63 = 12 ∨ jand (sx xs (i : Int)) 63 = 13 ∨ jand (sx xs (i : Int)) 63 = 14 ∨ jand (sx xs (i : Int)) 63 = 15 ∨ jand (sx xs (i : Int)) 63 = 16 ∨ jand (sx xs (i : Int)) 63 = 17 ∨ jand (sx xs (i : Int)) 63 = 18 ∨ jand (sx xs (i : Int)) 63 = 19 ∨ jand (sx xs (i : Int)) 63 = 20 ∨ jand (sx xs (i : Int)) 63 = 21 ∨ jand (sx xs (i : Int)) 63 = 22 ∨ jand (sx xs (i : Int)) 63 = 23 ∨ jand (sx xs (i : Int)) 63 = 24 ∨ jand (sx xs (i : Int)) 63 = 25 ∨ jand (sx xs (i : Int)) 63 = 26 ∨ jand (sx xs (i : Int)) 63 = 27 ∨ jand (sx xs (i : Int)) 63 = 28 ∨ jand (sx xs (i : Int)) 63 = 29 ∨ jand (sx xs (i : Int)) 63 = 30 ∨ jand (sx xs (i : Int)) 63 = 31 ∨ jand (sx xs (i : Int)) 63 = 32 ∨ jand (sx xs (i : Int)) 63 = 33 ∨ jand (sx xs (i : Int)) 63 = 34 ∨ jand (sx xs (i : Int)) 63 = 35 ∨ jand (sx xs (i : Int)) 63 = 36 ∨ jand (sx xs (i : Int)) 63 = 37 ∨ jand (sx xs (i : Int)) 63 = 38 ∨ jand (sx xs (i : Int)) 63 = 39 ∨ jand (sx xs (i : Int)) 63 = 40 ∨ jand (sx xs (i : Int)) 63 = 41 ∨ jand (sx xs (i : Int)) 63 = 42 ∨ jand (sx xs (i : Int)) 63 = 43 ∨ jand (sx xs (i : Int)) 63 = 44 ∨ jand (sx xs (i : Int)) 63 = 45 ∨ jand (sx xs (i : Int)) 63 = 46 ∨ jand (sx xs (i : Int)) 63 = 47 ∨ jand (sx xs (i : Int)) 63 = 48 ∨ 49 ≤ jand (sx xs (i : Int)) 63 by omega) with h | h | h | h | h | h | h | h | h | h | h | h | h | h | h | h | h | h | h | h | h | h | h | h | h | h | h | h | h | h | h | h | h | h | h | h | h | h | h | h | h | h | h | h | h | h | h | h | h | h
  · rw [h]
    exact g_tableIn hF d_sw (off := 212) (tgt := 256) (by decide) (by decide) rfl (by decide) (lb_0 hF hX hs hroom i hi m hR k)
  · rw [h]
    exact g_tableIn hF d_sw (off := 292) (tgt := 336) (by decide) (by decide) rfl (by decide) (lb_1 hF hX hs hroom i hi m hR k)
  · rw [h]
    exact g_tableIn hF d_sw (off := 372) (tgt := 416) (by decide) (by decide) rfl (by decide) (lb_2 hF hX hs hroom i hi m hR k)
  · rw [h]
    exact g_tableIn hF d_sw (off := 452) (tgt := 496) (by decide) (by decide) rfl (by decide) (lb_3 hF hX hs hroom i hi m hR k)
  · rw [h]
    exact g_tableIn hF d_sw (off := 551) (tgt := 595) (by decide) (by decide) rfl (by decide) (lb_4 hF hX hs hroom i hi m hR k)
  · rw [h]
    exact g_tableIn hF d_sw (off := 619) (tgt := 663) (by decide) (by decide) rfl (by decide) (lb_5 hF hX hs hroom i hi m hR k)
  · rw [h]
    exact g_tableIn hF d_sw (off := 706) (tgt := 750) (by decide) (by decide) rfl (by decide) (lb_6 hF hX hs hroom i hi m hR k)
  · rw [h]
    exact g_tableIn hF d_sw (off := 800) (tgt := 844) (by decide) (by decide) rfl (by decide) (lb_7 hF hX hs hroom i hi m hR k)
  · rw [h]
    exact g_tableIn hF d_sw (off := 882) (tgt := 926) (by decide) (by decide) rfl (by decide) (lb_8 hF hX hs hroom i hi m hR k)
  · rw [h]
    exact g_tableIn hF d_sw (off := 938) (tgt := 982) (by decide) (by decide) rfl (by decide) (lb_9 hF hX hs hroom i hi m hR k)
  · rw [h]
    exact g_tableIn hF d_sw (off := 1006) (tgt := 1050) (by decide) (by decide) rfl (by decide) (lb_10 hF hX hs hroom i hi m hR k)
  · rw [h]
    exact g_tableIn hF d_sw (off := 1086) (tgt := 1130) (by decide) (by decide) rfl (by decide) (lb_11 hF hX hs hroom i hi m hR k)
  · rw [h]
    exact g_tableIn hF d_sw (off := 1161) (tgt := 1205) (by decide) (by decide) rfl (by decide) (lb_12 hF hX hs hroom i hi m hR k)
  · rw [h]
    exact g_tableIn hF d_sw (off := 1236) (tgt := 1280) (by decide) (by decide) rfl (by decide) (lb_13 hF hX hs hroom i hi m hR k)
  · rw [h]
    exact g_tableIn hF d_sw (off := 1292) (tgt := 1336) (by decide) (by decide) rfl (by decide) (lb_14 hF hX hs hroom i hi m hR k)
  · rw [h]
    exact g_tableIn hF d_sw (off := 1348) (tgt := 1392) (by decide) (by decide) rfl (by decide) (lb_15 hF hX hs hroom i hi m hR k)
  · rw [h]
    exact g_tableIn hF d_sw (off := 1416) (tgt := 1460) (by decide) (by decide) rfl (by decide) (lb_16 hF hX hs hroom i hi m hR k)
  · rw [h]
    exact g_tableIn hF d_sw (off := 1491) (tgt := 1535) (by decide) (by decide) rfl (by decide) (lb_17 hF hX hs hroom i hi m hR k)
  · rw [h]
    exact g_tableIn hF d_sw (off := 1566) (tgt := 1610) (by decide) (by decide) rfl (by decide) (lb_18 hF hX hs hroom i hi m hR k)
  · rw [h]
    exact g_tableIn hF d_sw (off := 1641) (tgt := 1685) (by decide) (by decide) rfl (by decide) (lb_19 hF hX hs hroom i hi m hR k)
  · rw [h]
    exact g_tableIn hF d_sw (off := 1697) (tgt := 1741) (by decide) (by decide) rfl (by decide) (lb_20 hF hX hs hroom i hi m hR k)
  · rw [h]
    exact g_tableIn hF d_sw (off := 1753) (tgt := 1797) (by decide) (by decide) rfl (by decide) (lb_21 hF hX hs hroom i hi m hR k)
  · rw [h]
    exact g_tableIn hF d_sw (off := 1821) (tgt := 1865) (by decide) (by decide) rfl (by decide) (lb_22 hF hX hs hroom i hi m hR k)
  · rw [h]
    exact g_tableIn hF d_sw (off := 1877) (tgt := 1921) (by decide) (by decide) rfl (by decide) (lb_23 hF hX hs hroom i hi m hR k)
  · rw [h]
    exact g_tableIn hF d_sw (off := 1945) (tgt := 1989) (by decide) (by decide) rfl (by decide) (lb_24 hF hX hs hroom i hi m hR k)
  · rw [h]
    exact g_tableIn hF d_sw (off := 2013) (tgt := 2057) (by decide) (by decide) rfl (by decide) (lb_25 hF hX hs hroom i hi m hR k)
  · rw [h]
    exact g_tableIn hF d_sw (off := 2093) (tgt := 2137) (by decide) (by decide) rfl (by decide) (lb_26 hF hX hs hroom i hi m hR k)
  · rw [h]
    exact g_tableIn hF d_sw (off := 2173) (tgt := 2217) (by decide) (by decide) rfl (by decide) (lb_27 hF hX hs hroom i hi m hR k)
  · rw [h]
    exact g_tableIn hF d_sw (off := 2253) (tgt := 2297) (by decide) (by decide) rfl (by decide) (lb_28 hF hX hs hroom i hi m hR k)
  · rw [h]
    exact g_tableIn hF d_sw (off := 2333) (tgt := 2377) (by decide) (by decide) rfl (by decide) (lb_29 hF hX hs hroom i hi m hR k)
  · rw [h]
    exact g_tableIn hF d_sw (off := 2413) (tgt := 2457) (by decide) (by decide) rfl (by decide) (lb_30 hF hX hs hroom i hi m hR k)
  · rw [h]
    exact g_tableIn hF d_sw (off := 2481) (tgt := 2525) (by decide) (by decide) rfl (by decide) (lb_31 hF hX hs hroom i hi m hR k)
  · rw [h]
    exact g_tableIn hF d_sw (off := 2561) (tgt := 2605) (by decide) (by decide) rfl (by decide) (lb_32 hF hX hs hroom i hi m hR k)
  · rw [h]
    exact g_tableIn hF d_sw (off := 2624) (tgt := 2668) (by decide) (by decide) rfl (by decide) (lb_33 hF hX hs hroom i hi m hR k)
  · rw [h]
    exact g_tableIn hF d_sw (off := 2680) (tgt := 2724) (by decide) (by decide) rfl (by decide) (lb_34 hF hX hs hroom i hi m hR k)
  · rw [h]
    exact g_tableIn hF d_sw (off := 2748) (tgt := 2792) (by decide) (by decide) rfl (by decide) (lb_35 hF hX hs hroom i hi m hR k)
  · rw [h]
    exact g_tableIn hF d_sw (off := 2816) (tgt := 2860) (by decide) (by decide) rfl (by decide) (lb_36 hF hX hs hroom i hi m hR k)
  · rw [h]
    exact g_tableIn hF d_sw (off := 2871) (tgt := 2915) (by decide) (by decide) rfl (by decide) (lb_37 hF hX hs hroom i hi m hR k)
  · rw [h]
    exact g_tableIn hF d_sw (off := 2939) (tgt := 2983) (by decide) (by decide) rfl (by decide) (lb_38 hF hX hs hroom i hi m hR k)
  · rw [h]
    exact g_tableIn hF d_sw (off := 2995) (tgt := 3039) (by decide) (by decide) rfl (by decide) (lb_39 hF hX hs hroom i hi m hR k)
  · rw [h]
    exact g_tableIn hF d_sw (off := 3008) (tgt := 3052) (by decide) (by decide) rfl (by decide) (lb_40 hF hX hs hroom i hi m hR k)
  · rw [h]
    exact g_tableIn hF d_sw (off := 3064) (tgt := 3108) (by decide) (by decide) rfl (by decide) (lb_41 hF hX hs hroom i hi m hR k)
  · rw [h]
    exact g_tableIn hF d_sw (off := 3120) (tgt := 3164) (by decide) (by decide) rfl (by decide) (lb_42 hF hX hs hroom i hi m hR k)
  · rw [h]
    exact g_tableIn hF d_sw (off := 3204) (tgt := 3248) (by decide) (by decide) rfl (by decide) (lb_43 hF hX hs hroom i hi m hR k)
  · rw [h]
    exact g_tableIn hF d_sw (off := 3217) (tgt := 3261) (by decide) (by decide) rfl (by decide) (lb_44 hF hX hs hroom i hi m hR k)
  · rw [h]
    exact g_tableIn hF d_sw (off := 3261) (tgt := 3305) (by decide) (by decide) rfl (by decide) (lb_45 hF hX hs hroom i hi m hR k)
  · rw [h]
    exact g_tableIn hF d_sw (off := 3339) (tgt := 3383) (by decide) (by decide) rfl (by decide) (lb_46 hF hX hs hroom i hi m hR k)
  · rw [h]
    exact g_tableIn hF d_sw (off := 3380) (tgt := 3424) (by decide) (by decide) rfl (by decide) (lb_47 hF hX hs hroom i hi m hR k)
  · rw [h]
    exact g_tableIn hF d_sw (off := 3394) (tgt := 3438) (by decide) (by decide) rfl (by decide) (lb_48 hF hX hs hroom i hi m hR k)
  · exact g_tableOut hF d_sw (tgt := 3451) (by omega) (Or.inr (by omega)) (by decide) (g_fup (fk F + 1) (fn F + 6) (Nat.le_succ _) (by omega) (k m hR))
set_option maxHeartbeats 4000000 in
set_option maxRecDepth 100000 in
theorem law_loop {F : jF} {X : jX} {L : Nat} {xs : Nat → Int32} (hF : jOk F X RL cL_law 10 (some .boolean) 20) (hX : jxok X) (hs : jScr F X L xs) (hend : ∀ (k s : Nat) (m : jM), k ≤ (fR F).cells → s ≤ (fR F).slots → jG (fup F k s) X m 3457 [] []) :
    ∀ (n i k s : Nat) (m : jM), L < i + 5 * n → i ≤ L → k + n ≤ (fR F).cells → s + 6 * n ≤ (fR F).slots → Rel m → jG (fup F k s) X m 28 (lw0 i) [] := by
  obtain ⟨hs1, hs2, hs3, hs4⟩ := id hs
  intro n
  induction n with
  | zero => intro i k s m h1 h2; exact absurd h2 (by omega)
  | succ n ih =>
    intro i k s m h1 h2 h3 h4 hR
    have hF2 := hF.up (k := k) (n := s) (by omega) (by omega)
    refine g_iload hF2 (by decide +kernel : decode cL_law 28 = .ok (.iload 5, 2)) rfl ?_
    refine g_aload_n hF2 (by decide +kernel : decode cL_law 30 = .ok (.aload_n 0, 1)) rfl ?_
    refine g_slen hF2 hs (by decide +kernel : decode cL_law 31 = .ok (.arraylength, 1)) ?_
    refine g_iconst hF2 (by decide +kernel : decode cL_law 32 = .ok (.iconst 5, 1)) ?_
    refine g_isub hF2 (by decide +kernel : decode cL_law 33 = .ok (.isub, 1)) ?_
    refine g_icmp_gt hF2 (tgt := 3457) (by decide +kernel : decode cL_law 34 = .ok (.if_icmp .gt 3423, 3)) (by decide) (by omega) (by omega) (fun c => ?_) (fun c => ?_)
    · refine g_take 0 ?_
      exact hend k s m (by omega) (by omega)
    · refine law_sw hF2 hX hs ⟨show k + 1 ≤ (fR F).cells by omega, show s + 6 ≤ (fR F).slots by omega⟩ i (by omega) m hR (fun m9 h9 => ?_)
      have hF3 := hF.up (k := k + 1) (n := s + 6) (by omega) (by omega)
      refine g_iinc hF3 (by decide +kernel : decode cL_law 3451 = .ok (.iinc 5 5, 3)) rfl (by decide) ?_
      refine g_goto hF3 (tgt := 28) (by decide +kernel : decode cL_law 3454 = .ok (.goto (-3426), 3)) (by decide) ?_
      exact ih (i + 5) (k + 1) (s + 6) m9 (by omega) (by omega) (by omega) (by omega) h9

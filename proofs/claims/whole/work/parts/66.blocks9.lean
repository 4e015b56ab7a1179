/-! BLOCKS of the law -/
set_option maxHeartbeats 4000000 in
set_option maxRecDepth 100000 in
theorem lb_34 {F : jF} {X : jX} {L : Nat} {xs : Nat → Int32} (hF : jOk F X RL cL_law 10 (some .boolean) 20) (hX : jxok X) (hs : jScr F X L xs) (hroom : fk F + 1 ≤ (fR F).cells ∧ fn F + 6 ≤ (fR F).slots) (i : Nat) (hi : i + 5 ≤ L) (m : jM) (hR : Rel m) (k : ∀ m9 : jM, Rel m9 → jG (fup F (fk F + 1) (fn F + 6)) X m9 3451 (lw0 i) []) : jG F X m 2724 (lw0 i) [] := by
  have hF2 := hF.up (k := fk F + 1) (n := fn F + 6) hroom.1 hroom.2
  obtain ⟨c, Q, hc, hW, hM⟩ := st_steps X hX (sx xs ((i : Int) + 1)) (sx_r _ _) (sx xs ((i : Int) + 2)) (sx_r _ _) m hR
  refine g_aload_n hF (by decide +kernel : decode cL_law 2724 = .ok (.aload_n 1, 1)) rfl ?_
  refine g_aload_n hF (by decide +kernel : decode cL_law 2725 = .ok (.aload_n 0, 1)) rfl ?_
  refine g_iload hF (by decide +kernel : decode cL_law 2726 = .ok (.iload 5, 2)) rfl ?_
  refine g_iconst hF (by decide +kernel : decode cL_law 2728 = .ok (.iconst 1, 1)) ?_
  refine g_iadd hF (by decide +kernel : decode cL_law 2729 = .ok (.iadd, 1)) ?_
  refine g_sld hF hs (by decide +kernel : decode cL_law 2730 = .ok (.iaload, 1)) ?_ ?_
  · exact ⟨by first | omega | (show (0 : Int) ≤ (i : Int) + _; omega), by first | omega | (show (i : Int) + _ < (L : Int); omega)⟩
  refine g_aload_n hF (by decide +kernel : decode cL_law 2731 = .ok (.aload_n 0, 1)) rfl ?_
  refine g_iload hF (by decide +kernel : decode cL_law 2732 = .ok (.iload 5, 2)) rfl ?_
  refine g_iconst hF (by decide +kernel : decode cL_law 2734 = .ok (.iconst 2, 1)) ?_
  refine g_iadd hF (by decide +kernel : decode cL_law 2735 = .ok (.iadd, 1)) ?_
  refine g_sld hF hs (by decide +kernel : decode cL_law 2736 = .ok (.iaload, 1)) ?_ ?_
  · exact ⟨by first | omega | (show (0 : Int) ≤ (i : Int) + _; omega), by first | omega | (show (i : Int) + _ < (L : Int); omega)⟩
  refine g_aload_n hF (by decide +kernel : decode cL_law 2737 = .ok (.aload_n 3, 1)) rfl ?_
  refine g_callL hF lkL_283 hW (by decide +kernel : decode cL_law 2738 = .ok (.invokestatic 283, 3)) (by decide) rfl rfl (Nat.le_of_ble_eq_true rfl) hroom (fun v1 m1 h1 => ?_)
  obtain ⟨rfl, hq⟩ := h1
  refine g_istore hF2 (by decide +kernel : decode cL_law 2741 = .ok (.istore 6, 2)) (by decide) ?_
  refine g_aload_n hF2 (by decide +kernel : decode cL_law 2743 = .ok (.aload_n 2, 1)) rfl ?_
  refine g_aload_n hF2 (by decide +kernel : decode cL_law 2744 = .ok (.aload_n 0, 1)) rfl ?_
  refine g_iload hF2 (by decide +kernel : decode cL_law 2745 = .ok (.iload 5, 2)) rfl ?_
  refine g_iconst hF2 (by decide +kernel : decode cL_law 2747 = .ok (.iconst 1, 1)) ?_
  refine g_iadd hF2 (by decide +kernel : decode cL_law 2748 = .ok (.iadd, 1)) ?_
  refine g_sld hF2 hs (by decide +kernel : decode cL_law 2749 = .ok (.iaload, 1)) ?_ ?_
  · exact ⟨by first | omega | (show (0 : Int) ≤ (i : Int) + _; omega), by first | omega | (show (i : Int) + _ < (L : Int); omega)⟩
  refine g_aload_n hF2 (by decide +kernel : decode cL_law 2750 = .ok (.aload_n 0, 1)) rfl ?_
  refine g_iload hF2 (by decide +kernel : decode cL_law 2751 = .ok (.iload 5, 2)) rfl ?_
  refine g_iconst hF2 (by decide +kernel : decode cL_law 2753 = .ok (.iconst 2, 1)) ?_
  refine g_iadd hF2 (by decide +kernel : decode cL_law 2754 = .ok (.iadd, 1)) ?_
  refine g_sld hF2 hs (by decide +kernel : decode cL_law 2755 = .ok (.iaload, 1)) ?_ ?_
  · exact ⟨by first | omega | (show (0 : Int) ≤ (i : Int) + _; omega), by first | omega | (show (i : Int) + _ < (L : Int); omega)⟩
  refine g_callV hF2 lkL_285 (hM m1 hq) (by decide +kernel : decode cL_law 2756 = .ok (.invokevirtual 285, 3)) (by decide) rfl rfl rfl rfl jok51 (Nat.le_of_ble_eq_true rfl) (fun v2 m2 h2 => ?_)
  obtain ⟨e1, e2, ⟨b, rfl⟩, e4⟩ := h2
  refine g_istore hF2 (by decide +kernel : decode cL_law 2759 = .ok (.istore 7, 2)) (by decide) ?_
  refine g_aload_n hF2 (by decide +kernel : decode cL_law 2761 = .ok (.aload_n 2, 1)) rfl ?_
  refine g_callV hF2 lkL_176 (c_X5_thrown X hX _) (by decide +kernel : decode cL_law 2762 = .ok (.invokevirtual 176, 3)) (by decide) rfl rfl rfl rfl jok51 (Nat.le_of_ble_eq_true rfl) (fun v3 m3 h3 => ?_)
  obtain ⟨rfl, e3⟩ := h3
  obtain rfl := e3.symm
  rw [e1]
  refine g_iload hF2 (by decide +kernel : decode cL_law 2765 = .ok (.iload 6, 2)) rfl ?_
  refine g_icmp_eq hF2 (tgt := 2772) (by decide +kernel : decode cL_law 2767 = .ok (.if_icmp .eq 5, 3)) (by decide) (by omega) (by omega) (fun c2767 => ?_) (fun c2767 => absurd rfl c2767)
  refine g_iload hF2 (by decide +kernel : decode cL_law 2772 = .ok (.iload 6, 2)) rfl ?_
  refine g_if_ne hF2 (tgt := 2789) (by decide +kernel : decode cL_law 2774 = .ok (.ifCond .ne 15, 3)) (by decide) (by omega) (fun c2774 => ?_) (fun c2774 => ?_)
  · skip
    refine g_goto hF2 (tgt := 3451) (by decide +kernel : decode cL_law 2789 = .ok (.goto 662, 3)) (by decide) ?_
    refine g_take 6 ?_
    exact k _ e2
  · skip
    obtain ⟨b2, hb2, hv⟩ := e4 c2774
    cases hb2
    refine g_aload_n hF2 (by decide +kernel : decode cL_law 2777 = .ok (.aload_n 3, 1)) rfl ?_
    refine g_iconst hF2 (by decide +kernel : decode cL_law 2778 = .ok (.iconst 0, 1)) ?_
    refine g_laload hF2 (by decide +kernel : decode cL_law 2779 = .ok (.laload, 1)) ?_
    rw [hv]
    refine g_iload hF2 (by decide +kernel : decode cL_law 2780 = .ok (.iload 7, 2)) rfl ?_
    refine g_i2lN hF2 (by decide +kernel : decode cL_law 2782 = .ok (.i2l, 1)) ?_
    refine g_lcmpE hF2 (by decide +kernel : decode cL_law 2783 = .ok (.lcmp, 1)) rfl ?_
    refine g_if_eq hF2 (tgt := 2789) (by decide +kernel : decode cL_law 2784 = .ok (.ifCond .eq 5, 3)) (by decide) (by decide) (fun c2784 => ?_) (fun c2784 => absurd rfl c2784)
    refine g_goto hF2 (tgt := 3451) (by decide +kernel : decode cL_law 2789 = .ok (.goto 662, 3)) (by decide) ?_
    refine g_take 6 ?_
    exact k _ e2
set_option maxHeartbeats 4000000 in
set_option maxRecDepth 100000 in
theorem lb_35 {F : jF} {X : jX} {L : Nat} {xs : Nat → Int32} (hF : jOk F X RL cL_law 10 (some .boolean) 20) (hX : jxok X) (hs : jScr F X L xs) (hroom : fk F + 1 ≤ (fR F).cells ∧ fn F + 6 ≤ (fR F).slots) (i : Nat) (hi : i + 5 ≤ L) (m : jM) (hR : Rel m) (k : ∀ m9 : jM, Rel m9 → jG (fup F (fk F + 1) (fn F + 6)) X m9 3451 (lw0 i) []) : jG F X m 2792 (lw0 i) [] := by
  have hF2 := hF.up (k := fk F + 1) (n := fn F + 6) hroom.1 hroom.2
  obtain ⟨c, Q, hc, hW, hM⟩ := st_ring X hX (sx xs ((i : Int) + 1)) (sx_r _ _) (sx xs ((i : Int) + 2)) (sx_r _ _) m hR
  refine g_aload_n hF (by decide +kernel : decode cL_law 2792 = .ok (.aload_n 1, 1)) rfl ?_
  refine g_aload_n hF (by decide +kernel : decode cL_law 2793 = .ok (.aload_n 0, 1)) rfl ?_
  refine g_iload hF (by decide +kernel : decode cL_law 2794 = .ok (.iload 5, 2)) rfl ?_
  refine g_iconst hF (by decide +kernel : decode cL_law 2796 = .ok (.iconst 1, 1)) ?_
  refine g_iadd hF (by decide +kernel : decode cL_law 2797 = .ok (.iadd, 1)) ?_
  refine g_sld hF hs (by decide +kernel : decode cL_law 2798 = .ok (.iaload, 1)) ?_ ?_
  · exact ⟨by first | omega | (show (0 : Int) ≤ (i : Int) + _; omega), by first | omega | (show (i : Int) + _ < (L : Int); omega)⟩
  refine g_aload_n hF (by decide +kernel : decode cL_law 2799 = .ok (.aload_n 0, 1)) rfl ?_
  refine g_iload hF (by decide +kernel : decode cL_law 2800 = .ok (.iload 5, 2)) rfl ?_
  refine g_iconst hF (by decide +kernel : decode cL_law 2802 = .ok (.iconst 2, 1)) ?_
  refine g_iadd hF (by decide +kernel : decode cL_law 2803 = .ok (.iadd, 1)) ?_
  refine g_sld hF hs (by decide +kernel : decode cL_law 2804 = .ok (.iaload, 1)) ?_ ?_
  · exact ⟨by first | omega | (show (0 : Int) ≤ (i : Int) + _; omega), by first | omega | (show (i : Int) + _ < (L : Int); omega)⟩
  refine g_aload_n hF (by decide +kernel : decode cL_law 2805 = .ok (.aload_n 3, 1)) rfl ?_
  refine g_callL hF lkL_286 hW (by decide +kernel : decode cL_law 2806 = .ok (.invokestatic 286, 3)) (by decide) rfl rfl (Nat.le_of_ble_eq_true rfl) hroom (fun v1 m1 h1 => ?_)
  obtain ⟨rfl, hq⟩ := h1
  refine g_istore hF2 (by decide +kernel : decode cL_law 2809 = .ok (.istore 6, 2)) (by decide) ?_
  refine g_aload_n hF2 (by decide +kernel : decode cL_law 2811 = .ok (.aload_n 2, 1)) rfl ?_
  refine g_aload_n hF2 (by decide +kernel : decode cL_law 2812 = .ok (.aload_n 0, 1)) rfl ?_
  refine g_iload hF2 (by decide +kernel : decode cL_law 2813 = .ok (.iload 5, 2)) rfl ?_
  refine g_iconst hF2 (by decide +kernel : decode cL_law 2815 = .ok (.iconst 1, 1)) ?_
  refine g_iadd hF2 (by decide +kernel : decode cL_law 2816 = .ok (.iadd, 1)) ?_
  refine g_sld hF2 hs (by decide +kernel : decode cL_law 2817 = .ok (.iaload, 1)) ?_ ?_
  · exact ⟨by first | omega | (show (0 : Int) ≤ (i : Int) + _; omega), by first | omega | (show (i : Int) + _ < (L : Int); omega)⟩
  refine g_aload_n hF2 (by decide +kernel : decode cL_law 2818 = .ok (.aload_n 0, 1)) rfl ?_
  refine g_iload hF2 (by decide +kernel : decode cL_law 2819 = .ok (.iload 5, 2)) rfl ?_
  refine g_iconst hF2 (by decide +kernel : decode cL_law 2821 = .ok (.iconst 2, 1)) ?_
  refine g_iadd hF2 (by decide +kernel : decode cL_law 2822 = .ok (.iadd, 1)) ?_
  refine g_sld hF2 hs (by decide +kernel : decode cL_law 2823 = .ok (.iaload, 1)) ?_ ?_
  · exact ⟨by first | omega | (show (0 : Int) ≤ (i : Int) + _; omega), by first | omega | (show (i : Int) + _ < (L : Int); omega)⟩
  refine g_callV hF2 lkL_288 (hM m1 hq) (by decide +kernel : decode cL_law 2824 = .ok (.invokevirtual 288, 3)) (by decide) rfl rfl rfl rfl jok51 (Nat.le_of_ble_eq_true rfl) (fun v2 m2 h2 => ?_)
  obtain ⟨e1, e2, ⟨b, rfl⟩, e4⟩ := h2
  refine g_istore hF2 (by decide +kernel : decode cL_law 2827 = .ok (.istore 7, 2)) (by decide) ?_
  refine g_aload_n hF2 (by decide +kernel : decode cL_law 2829 = .ok (.aload_n 2, 1)) rfl ?_
  refine g_callV hF2 lkL_176 (c_X5_thrown X hX _) (by decide +kernel : decode cL_law 2830 = .ok (.invokevirtual 176, 3)) (by decide) rfl rfl rfl rfl jok51 (Nat.le_of_ble_eq_true rfl) (fun v3 m3 h3 => ?_)
  obtain ⟨rfl, e3⟩ := h3
  obtain rfl := e3.symm
  rw [e1]
  refine g_iload hF2 (by decide +kernel : decode cL_law 2833 = .ok (.iload 6, 2)) rfl ?_
  refine g_icmp_eq hF2 (tgt := 2840) (by decide +kernel : decode cL_law 2835 = .ok (.if_icmp .eq 5, 3)) (by decide) (by omega) (by omega) (fun c2835 => ?_) (fun c2835 => absurd rfl c2835)
  refine g_iload hF2 (by decide +kernel : decode cL_law 2840 = .ok (.iload 6, 2)) rfl ?_
  refine g_if_ne hF2 (tgt := 2857) (by decide +kernel : decode cL_law 2842 = .ok (.ifCond .ne 15, 3)) (by decide) (by omega) (fun c2842 => ?_) (fun c2842 => ?_)
  · skip
    refine g_goto hF2 (tgt := 3451) (by decide +kernel : decode cL_law 2857 = .ok (.goto 594, 3)) (by decide) ?_
    refine g_take 6 ?_
    exact k _ e2
  · skip
    obtain ⟨b2, hb2, hv⟩ := e4 c2842
    cases hb2
    refine g_aload_n hF2 (by decide +kernel : decode cL_law 2845 = .ok (.aload_n 3, 1)) rfl ?_
    refine g_iconst hF2 (by decide +kernel : decode cL_law 2846 = .ok (.iconst 0, 1)) ?_
    refine g_laload hF2 (by decide +kernel : decode cL_law 2847 = .ok (.laload, 1)) ?_
    rw [hv]
    refine g_iload hF2 (by decide +kernel : decode cL_law 2848 = .ok (.iload 7, 2)) rfl ?_
    refine g_i2lN hF2 (by decide +kernel : decode cL_law 2850 = .ok (.i2l, 1)) ?_
    refine g_lcmpE hF2 (by decide +kernel : decode cL_law 2851 = .ok (.lcmp, 1)) rfl ?_
    refine g_if_eq hF2 (tgt := 2857) (by decide +kernel : decode cL_law 2852 = .ok (.ifCond .eq 5, 3)) (by decide) (by decide) (fun c2852 => ?_) (fun c2852 => absurd rfl c2852)
    refine g_goto hF2 (tgt := 3451) (by decide +kernel : decode cL_law 2857 = .ok (.goto 594, 3)) (by decide) ?_
    refine g_take 6 ?_
    exact k _ e2
set_option maxHeartbeats 4000000 in
set_option maxRecDepth 100000 in
theorem lb_37 {F : jF} {X : jX} {L : Nat} {xs : Nat → Int32} (hF : jOk F X RL cL_law 10 (some .boolean) 20) (hX : jxok X) (hs : jScr F X L xs) (hroom : fk F + 1 ≤ (fR F).cells ∧ fn F + 6 ≤ (fR F).slots) (i : Nat) (hi : i + 5 ≤ L) (m : jM) (hR : Rel m) (k : ∀ m9 : jM, Rel m9 → jG (fup F (fk F + 1) (fn F + 6)) X m9 3451 (lw0 i) []) : jG F X m 2915 (lw0 i) [] := by
  have hF2 := hF.up (k := fk F + 1) (n := fn F + 6) hroom.1 hroom.2
  obtain ⟨c, Q, hc, hW, hM⟩ := st_say X hX (sx xs ((i : Int) + 1)) (sx_r _ _) (sx xs ((i : Int) + 2)) (sx_r _ _) m hR
  refine g_aload_n hF (by decide +kernel : decode cL_law 2915 = .ok (.aload_n 1, 1)) rfl ?_
  refine g_aload_n hF (by decide +kernel : decode cL_law 2916 = .ok (.aload_n 0, 1)) rfl ?_
  refine g_iload hF (by decide +kernel : decode cL_law 2917 = .ok (.iload 5, 2)) rfl ?_
  refine g_iconst hF (by decide +kernel : decode cL_law 2919 = .ok (.iconst 1, 1)) ?_
  refine g_iadd hF (by decide +kernel : decode cL_law 2920 = .ok (.iadd, 1)) ?_
  refine g_sld hF hs (by decide +kernel : decode cL_law 2921 = .ok (.iaload, 1)) ?_ ?_
  · exact ⟨by first | omega | (show (0 : Int) ≤ (i : Int) + _; omega), by first | omega | (show (i : Int) + _ < (L : Int); omega)⟩
  refine g_aload_n hF (by decide +kernel : decode cL_law 2922 = .ok (.aload_n 0, 1)) rfl ?_
  refine g_iload hF (by decide +kernel : decode cL_law 2923 = .ok (.iload 5, 2)) rfl ?_
  refine g_iconst hF (by decide +kernel : decode cL_law 2925 = .ok (.iconst 2, 1)) ?_
  refine g_iadd hF (by decide +kernel : decode cL_law 2926 = .ok (.iadd, 1)) ?_
  refine g_sld hF hs (by decide +kernel : decode cL_law 2927 = .ok (.iaload, 1)) ?_ ?_
  · exact ⟨by first | omega | (show (0 : Int) ≤ (i : Int) + _; omega), by first | omega | (show (i : Int) + _ < (L : Int); omega)⟩
  refine g_aload_n hF (by decide +kernel : decode cL_law 2928 = .ok (.aload_n 3, 1)) rfl ?_
  refine g_callL hF lkL_292 hW (by decide +kernel : decode cL_law 2929 = .ok (.invokestatic 292, 3)) (by decide) rfl rfl (Nat.le_of_ble_eq_true rfl) hroom (fun v1 m1 h1 => ?_)
  obtain ⟨rfl, hq⟩ := h1
  refine g_istore hF2 (by decide +kernel : decode cL_law 2932 = .ok (.istore 6, 2)) (by decide) ?_
  refine g_aload_n hF2 (by decide +kernel : decode cL_law 2934 = .ok (.aload_n 2, 1)) rfl ?_
  refine g_aload_n hF2 (by decide +kernel : decode cL_law 2935 = .ok (.aload_n 0, 1)) rfl ?_
  refine g_iload hF2 (by decide +kernel : decode cL_law 2936 = .ok (.iload 5, 2)) rfl ?_
  refine g_iconst hF2 (by decide +kernel : decode cL_law 2938 = .ok (.iconst 1, 1)) ?_
  refine g_iadd hF2 (by decide +kernel : decode cL_law 2939 = .ok (.iadd, 1)) ?_
  refine g_sld hF2 hs (by decide +kernel : decode cL_law 2940 = .ok (.iaload, 1)) ?_ ?_
  · exact ⟨by first | omega | (show (0 : Int) ≤ (i : Int) + _; omega), by first | omega | (show (i : Int) + _ < (L : Int); omega)⟩
  refine g_aload_n hF2 (by decide +kernel : decode cL_law 2941 = .ok (.aload_n 0, 1)) rfl ?_
  refine g_iload hF2 (by decide +kernel : decode cL_law 2942 = .ok (.iload 5, 2)) rfl ?_
  refine g_iconst hF2 (by decide +kernel : decode cL_law 2944 = .ok (.iconst 2, 1)) ?_
  refine g_iadd hF2 (by decide +kernel : decode cL_law 2945 = .ok (.iadd, 1)) ?_
  refine g_sld hF2 hs (by decide +kernel : decode cL_law 2946 = .ok (.iaload, 1)) ?_ ?_
  · exact ⟨by first | omega | (show (0 : Int) ≤ (i : Int) + _; omega), by first | omega | (show (i : Int) + _ < (L : Int); omega)⟩
  refine g_callV hF2 lkL_294 (hM m1 hq) (by decide +kernel : decode cL_law 2947 = .ok (.invokevirtual 294, 3)) (by decide) rfl rfl rfl rfl jok51 (Nat.le_of_ble_eq_true rfl) (fun v2 m2 h2 => ?_)
  obtain ⟨e1, e2, ⟨b, rfl⟩, e4⟩ := h2
  refine g_istore hF2 (by decide +kernel : decode cL_law 2950 = .ok (.istore 7, 2)) (by decide) ?_
  refine g_aload_n hF2 (by decide +kernel : decode cL_law 2952 = .ok (.aload_n 2, 1)) rfl ?_
  refine g_callV hF2 lkL_176 (c_X5_thrown X hX _) (by decide +kernel : decode cL_law 2953 = .ok (.invokevirtual 176, 3)) (by decide) rfl rfl rfl rfl jok51 (Nat.le_of_ble_eq_true rfl) (fun v3 m3 h3 => ?_)
  obtain ⟨rfl, e3⟩ := h3
  obtain rfl := e3.symm
  rw [e1]
  refine g_iload hF2 (by decide +kernel : decode cL_law 2956 = .ok (.iload 6, 2)) rfl ?_
  refine g_icmp_eq hF2 (tgt := 2963) (by decide +kernel : decode cL_law 2958 = .ok (.if_icmp .eq 5, 3)) (by decide) (by omega) (by omega) (fun c2958 => ?_) (fun c2958 => absurd rfl c2958)
  refine g_iload hF2 (by decide +kernel : decode cL_law 2963 = .ok (.iload 6, 2)) rfl ?_
  refine g_if_ne hF2 (tgt := 2980) (by decide +kernel : decode cL_law 2965 = .ok (.ifCond .ne 15, 3)) (by decide) (by omega) (fun c2965 => ?_) (fun c2965 => ?_)
  · skip
    refine g_goto hF2 (tgt := 3451) (by decide +kernel : decode cL_law 2980 = .ok (.goto 471, 3)) (by decide) ?_
    refine g_take 6 ?_
    exact k _ e2
  · skip
    obtain ⟨b2, hb2, hv⟩ := e4 c2965
    cases hb2
    refine g_aload_n hF2 (by decide +kernel : decode cL_law 2968 = .ok (.aload_n 3, 1)) rfl ?_
    refine g_iconst hF2 (by decide +kernel : decode cL_law 2969 = .ok (.iconst 0, 1)) ?_
    refine g_laload hF2 (by decide +kernel : decode cL_law 2970 = .ok (.laload, 1)) ?_
    rw [hv]
    refine g_iload hF2 (by decide +kernel : decode cL_law 2971 = .ok (.iload 7, 2)) rfl ?_
    refine g_i2lN hF2 (by decide +kernel : decode cL_law 2973 = .ok (.i2l, 1)) ?_
    refine g_lcmpE hF2 (by decide +kernel : decode cL_law 2974 = .ok (.lcmp, 1)) rfl ?_
    refine g_if_eq hF2 (tgt := 2980) (by decide +kernel : decode cL_law 2975 = .ok (.ifCond .eq 5, 3)) (by decide) (by decide) (fun c2975 => ?_) (fun c2975 => absurd rfl c2975)
    refine g_goto hF2 (tgt := 3451) (by decide +kernel : decode cL_law 2980 = .ok (.goto 471, 3)) (by decide) ?_
    refine g_take 6 ?_
    exact k _ e2
set_option maxHeartbeats 4000000 in
set_option maxRecDepth 100000 in
theorem lb_38 {F : jF} {X : jX} {L : Nat} {xs : Nat → Int32} (hF : jOk F X RL cL_law 10 (some .boolean) 20) (hX : jxok X) (hs : jScr F X L xs) (hroom : fk F + 1 ≤ (fR F).cells ∧ fn F + 6 ≤ (fR F).slots) (i : Nat) (hi : i + 5 ≤ L) (m : jM) (hR : Rel m) (k : ∀ m9 : jM, Rel m9 → jG (fup F (fk F + 1) (fn F + 6)) X m9 3451 (lw0 i) []) : jG F X m 2983 (lw0 i) [] := by
  have hF2 := hF.up (k := fk F + 1) (n := fn F + 6) hroom.1 hroom.2
  obtain ⟨c, Q, hc, hW, hM⟩ := st_unsay X hX (sx xs ((i : Int) + 1)) (sx_r _ _) m hR
  refine g_aload_n hF (by decide +kernel : decode cL_law 2983 = .ok (.aload_n 1, 1)) rfl ?_
  refine g_aload_n hF (by decide +kernel : decode cL_law 2984 = .ok (.aload_n 0, 1)) rfl ?_
  refine g_iload hF (by decide +kernel : decode cL_law 2985 = .ok (.iload 5, 2)) rfl ?_
  refine g_iconst hF (by decide +kernel : decode cL_law 2987 = .ok (.iconst 1, 1)) ?_
  refine g_iadd hF (by decide +kernel : decode cL_law 2988 = .ok (.iadd, 1)) ?_
  refine g_sld hF hs (by decide +kernel : decode cL_law 2989 = .ok (.iaload, 1)) ?_ ?_
  · exact ⟨by first | omega | (show (0 : Int) ≤ (i : Int) + _; omega), by first | omega | (show (i : Int) + _ < (L : Int); omega)⟩
  refine g_aload_n hF (by decide +kernel : decode cL_law 2990 = .ok (.aload_n 3, 1)) rfl ?_
  refine g_callL hF lkL_295 hW (by decide +kernel : decode cL_law 2991 = .ok (.invokestatic 295, 3)) (by decide) rfl rfl (Nat.le_of_ble_eq_true rfl) hroom (fun v1 m1 h1 => ?_)
  obtain ⟨rfl, hq⟩ := h1
  refine g_istore hF2 (by decide +kernel : decode cL_law 2994 = .ok (.istore 6, 2)) (by decide) ?_
  refine g_aload_n hF2 (by decide +kernel : decode cL_law 2996 = .ok (.aload_n 2, 1)) rfl ?_
  refine g_aload_n hF2 (by decide +kernel : decode cL_law 2997 = .ok (.aload_n 0, 1)) rfl ?_
  refine g_iload hF2 (by decide +kernel : decode cL_law 2998 = .ok (.iload 5, 2)) rfl ?_
  refine g_iconst hF2 (by decide +kernel : decode cL_law 3000 = .ok (.iconst 1, 1)) ?_
  refine g_iadd hF2 (by decide +kernel : decode cL_law 3001 = .ok (.iadd, 1)) ?_
  refine g_sld hF2 hs (by decide +kernel : decode cL_law 3002 = .ok (.iaload, 1)) ?_ ?_
  · exact ⟨by first | omega | (show (0 : Int) ≤ (i : Int) + _; omega), by first | omega | (show (i : Int) + _ < (L : Int); omega)⟩
  refine g_callV hF2 lkL_297 (hM m1 hq) (by decide +kernel : decode cL_law 3003 = .ok (.invokevirtual 297, 3)) (by decide) rfl rfl rfl rfl jok51 (Nat.le_of_ble_eq_true rfl) (fun v2 m2 h2 => ?_)
  obtain ⟨e1, e2, ⟨b, rfl⟩, e4⟩ := h2
  refine g_istore hF2 (by decide +kernel : decode cL_law 3006 = .ok (.istore 7, 2)) (by decide) ?_
  refine g_aload_n hF2 (by decide +kernel : decode cL_law 3008 = .ok (.aload_n 2, 1)) rfl ?_
  refine g_callV hF2 lkL_176 (c_X5_thrown X hX _) (by decide +kernel : decode cL_law 3009 = .ok (.invokevirtual 176, 3)) (by decide) rfl rfl rfl rfl jok51 (Nat.le_of_ble_eq_true rfl) (fun v3 m3 h3 => ?_)
  obtain ⟨rfl, e3⟩ := h3
  obtain rfl := e3.symm
  rw [e1]
  refine g_iload hF2 (by decide +kernel : decode cL_law 3012 = .ok (.iload 6, 2)) rfl ?_
  refine g_icmp_eq hF2 (tgt := 3019) (by decide +kernel : decode cL_law 3014 = .ok (.if_icmp .eq 5, 3)) (by decide) (by omega) (by omega) (fun c3014 => ?_) (fun c3014 => absurd rfl c3014)
  refine g_iload hF2 (by decide +kernel : decode cL_law 3019 = .ok (.iload 6, 2)) rfl ?_
  refine g_if_ne hF2 (tgt := 3036) (by decide +kernel : decode cL_law 3021 = .ok (.ifCond .ne 15, 3)) (by decide) (by omega) (fun c3021 => ?_) (fun c3021 => ?_)
  · skip
    refine g_goto hF2 (tgt := 3451) (by decide +kernel : decode cL_law 3036 = .ok (.goto 415, 3)) (by decide) ?_
    refine g_take 6 ?_
    exact k _ e2
  · skip
    obtain ⟨b2, hb2, hv⟩ := e4 c3021
    cases hb2
    refine g_aload_n hF2 (by decide +kernel : decode cL_law 3024 = .ok (.aload_n 3, 1)) rfl ?_
    refine g_iconst hF2 (by decide +kernel : decode cL_law 3025 = .ok (.iconst 0, 1)) ?_
    refine g_laload hF2 (by decide +kernel : decode cL_law 3026 = .ok (.laload, 1)) ?_
    rw [hv]
    refine g_iload hF2 (by decide +kernel : decode cL_law 3027 = .ok (.iload 7, 2)) rfl ?_
    refine g_i2lN hF2 (by decide +kernel : decode cL_law 3029 = .ok (.i2l, 1)) ?_
    refine g_lcmpE hF2 (by decide +kernel : decode cL_law 3030 = .ok (.lcmp, 1)) rfl ?_
    refine g_if_eq hF2 (tgt := 3036) (by decide +kernel : decode cL_law 3031 = .ok (.ifCond .eq 5, 3)) (by decide) (by decide) (fun c3031 => ?_) (fun c3031 => absurd rfl c3031)
    refine g_goto hF2 (tgt := 3451) (by decide +kernel : decode cL_law 3036 = .ok (.goto 415, 3)) (by decide) ?_
    refine g_take 6 ?_
    exact k _ e2
set_option maxHeartbeats 4000000 in
set_option maxRecDepth 100000 in
theorem lb_40 {F : jF} {X : jX} {L : Nat} {xs : Nat → Int32} (hF : jOk F X RL cL_law 10 (some .boolean) 20) (hX : jxok X) (hs : jScr F X L xs) (hroom : fk F + 1 ≤ (fR F).cells ∧ fn F + 6 ≤ (fR F).slots) (i : Nat) (hi : i + 5 ≤ L) (m : jM) (hR : Rel m) (k : ∀ m9 : jM, Rel m9 → jG (fup F (fk F + 1) (fn F + 6)) X m9 3451 (lw0 i) []) : jG F X m 3052 (lw0 i) [] := by
  have hF2 := hF.up (k := fk F + 1) (n := fn F + 6) hroom.1 hroom.2
  obtain ⟨c, Q, hc, hW, hM⟩ := st_stir X hX (sx xs ((i : Int) + 1)) (sx_r _ _) m hR
  refine g_aload_n hF (by decide +kernel : decode cL_law 3052 = .ok (.aload_n 1, 1)) rfl ?_
  refine g_aload_n hF (by decide +kernel : decode cL_law 3053 = .ok (.aload_n 0, 1)) rfl ?_
  refine g_iload hF (by decide +kernel : decode cL_law 3054 = .ok (.iload 5, 2)) rfl ?_
  refine g_iconst hF (by decide +kernel : decode cL_law 3056 = .ok (.iconst 1, 1)) ?_
  refine g_iadd hF (by decide +kernel : decode cL_law 3057 = .ok (.iadd, 1)) ?_
  refine g_sld hF hs (by decide +kernel : decode cL_law 3058 = .ok (.iaload, 1)) ?_ ?_
  · exact ⟨by first | omega | (show (0 : Int) ≤ (i : Int) + _; omega), by first | omega | (show (i : Int) + _ < (L : Int); omega)⟩
  refine g_aload_n hF (by decide +kernel : decode cL_law 3059 = .ok (.aload_n 3, 1)) rfl ?_
  refine g_callL hF lkL_302 hW (by decide +kernel : decode cL_law 3060 = .ok (.invokestatic 302, 3)) (by decide) rfl rfl (Nat.le_of_ble_eq_true rfl) hroom (fun v1 m1 h1 => ?_)
  obtain ⟨rfl, hq⟩ := h1
  refine g_istore hF2 (by decide +kernel : decode cL_law 3063 = .ok (.istore 6, 2)) (by decide) ?_
  refine g_aload_n hF2 (by decide +kernel : decode cL_law 3065 = .ok (.aload_n 2, 1)) rfl ?_
  refine g_aload_n hF2 (by decide +kernel : decode cL_law 3066 = .ok (.aload_n 0, 1)) rfl ?_
  refine g_iload hF2 (by decide +kernel : decode cL_law 3067 = .ok (.iload 5, 2)) rfl ?_
  refine g_iconst hF2 (by decide +kernel : decode cL_law 3069 = .ok (.iconst 1, 1)) ?_
  refine g_iadd hF2 (by decide +kernel : decode cL_law 3070 = .ok (.iadd, 1)) ?_
  refine g_sld hF2 hs (by decide +kernel : decode cL_law 3071 = .ok (.iaload, 1)) ?_ ?_
  · exact ⟨by first | omega | (show (0 : Int) ≤ (i : Int) + _; omega), by first | omega | (show (i : Int) + _ < (L : Int); omega)⟩
  refine g_callV hF2 lkL_304 (hM m1 hq) (by decide +kernel : decode cL_law 3072 = .ok (.invokevirtual 304, 3)) (by decide) rfl rfl rfl rfl jok51 (Nat.le_of_ble_eq_true rfl) (fun v2 m2 h2 => ?_)
  obtain ⟨e1, e2, ⟨b, rfl⟩, e4⟩ := h2
  refine g_istore hF2 (by decide +kernel : decode cL_law 3075 = .ok (.istore 7, 2)) (by decide) ?_
  refine g_aload_n hF2 (by decide +kernel : decode cL_law 3077 = .ok (.aload_n 2, 1)) rfl ?_
  refine g_callV hF2 lkL_176 (c_X5_thrown X hX _) (by decide +kernel : decode cL_law 3078 = .ok (.invokevirtual 176, 3)) (by decide) rfl rfl rfl rfl jok51 (Nat.le_of_ble_eq_true rfl) (fun v3 m3 h3 => ?_)
  obtain ⟨rfl, e3⟩ := h3
  obtain rfl := e3.symm
  rw [e1]
  refine g_iload hF2 (by decide +kernel : decode cL_law 3081 = .ok (.iload 6, 2)) rfl ?_
  refine g_icmp_eq hF2 (tgt := 3088) (by decide +kernel : decode cL_law 3083 = .ok (.if_icmp .eq 5, 3)) (by decide) (by omega) (by omega) (fun c3083 => ?_) (fun c3083 => absurd rfl c3083)
  refine g_iload hF2 (by decide +kernel : decode cL_law 3088 = .ok (.iload 6, 2)) rfl ?_
  refine g_if_ne hF2 (tgt := 3105) (by decide +kernel : decode cL_law 3090 = .ok (.ifCond .ne 15, 3)) (by decide) (by omega) (fun c3090 => ?_) (fun c3090 => ?_)
  · skip
    refine g_goto hF2 (tgt := 3451) (by decide +kernel : decode cL_law 3105 = .ok (.goto 346, 3)) (by decide) ?_
    refine g_take 6 ?_
    exact k _ e2
  · skip
    obtain ⟨b2, hb2, hv⟩ := e4 c3090
    cases hb2
    refine g_aload_n hF2 (by decide +kernel : decode cL_law 3093 = .ok (.aload_n 3, 1)) rfl ?_
    refine g_iconst hF2 (by decide +kernel : decode cL_law 3094 = .ok (.iconst 0, 1)) ?_
    refine g_laload hF2 (by decide +kernel : decode cL_law 3095 = .ok (.laload, 1)) ?_
    rw [hv]
    refine g_iload hF2 (by decide +kernel : decode cL_law 3096 = .ok (.iload 7, 2)) rfl ?_
    refine g_i2lN hF2 (by decide +kernel : decode cL_law 3098 = .ok (.i2l, 1)) ?_
    refine g_lcmpE hF2 (by decide +kernel : decode cL_law 3099 = .ok (.lcmp, 1)) rfl ?_
    refine g_if_eq hF2 (tgt := 3105) (by decide +kernel : decode cL_law 3100 = .ok (.ifCond .eq 5, 3)) (by decide) (by decide) (fun c3100 => ?_) (fun c3100 => absurd rfl c3100)
    refine g_goto hF2 (tgt := 3451) (by decide +kernel : decode cL_law 3105 = .ok (.goto 346, 3)) (by decide) ?_
    refine g_take 6 ?_
    exact k _ e2
set_option maxHeartbeats 4000000 in
set_option maxRecDepth 100000 in
theorem lb_41 {F : jF} {X : jX} {L : Nat} {xs : Nat → Int32} (hF : jOk F X RL cL_law 10 (some .boolean) 20) (hX : jxok X) (hs : jScr F X L xs) (hroom : fk F + 1 ≤ (fR F).cells ∧ fn F + 6 ≤ (fR F).slots) (i : Nat) (hi : i + 5 ≤ L) (m : jM) (hR : Rel m) (k : ∀ m9 : jM, Rel m9 → jG (fup F (fk F + 1) (fn F + 6)) X m9 3451 (lw0 i) []) : jG F X m 3108 (lw0 i) [] := by
  have hF2 := hF.up (k := fk F + 1) (n := fn F + 6) hroom.1 hroom.2
  obtain ⟨c, Q, hc, hW, hM⟩ := st_play X hX (sx xs ((i : Int) + 1)) (sx_r _ _) m hR
  refine g_aload_n hF (by decide +kernel : decode cL_law 3108 = .ok (.aload_n 1, 1)) rfl ?_
  refine g_aload_n hF (by decide +kernel : decode cL_law 3109 = .ok (.aload_n 0, 1)) rfl ?_
  refine g_iload hF (by decide +kernel : decode cL_law 3110 = .ok (.iload 5, 2)) rfl ?_
  refine g_iconst hF (by decide +kernel : decode cL_law 3112 = .ok (.iconst 1, 1)) ?_
  refine g_iadd hF (by decide +kernel : decode cL_law 3113 = .ok (.iadd, 1)) ?_
  refine g_sld hF hs (by decide +kernel : decode cL_law 3114 = .ok (.iaload, 1)) ?_ ?_
  · exact ⟨by first | omega | (show (0 : Int) ≤ (i : Int) + _; omega), by first | omega | (show (i : Int) + _ < (L : Int); omega)⟩
  refine g_aload_n hF (by decide +kernel : decode cL_law 3115 = .ok (.aload_n 3, 1)) rfl ?_
  refine g_callL hF lkL_305 hW (by decide +kernel : decode cL_law 3116 = .ok (.invokestatic 305, 3)) (by decide) rfl rfl (Nat.le_of_ble_eq_true rfl) hroom (fun v1 m1 h1 => ?_)
  obtain ⟨rfl, hq⟩ := h1
  refine g_istore hF2 (by decide +kernel : decode cL_law 3119 = .ok (.istore 6, 2)) (by decide) ?_
  refine g_aload_n hF2 (by decide +kernel : decode cL_law 3121 = .ok (.aload_n 2, 1)) rfl ?_
  refine g_aload_n hF2 (by decide +kernel : decode cL_law 3122 = .ok (.aload_n 0, 1)) rfl ?_
  refine g_iload hF2 (by decide +kernel : decode cL_law 3123 = .ok (.iload 5, 2)) rfl ?_
  refine g_iconst hF2 (by decide +kernel : decode cL_law 3125 = .ok (.iconst 1, 1)) ?_
  refine g_iadd hF2 (by decide +kernel : decode cL_law 3126 = .ok (.iadd, 1)) ?_
  refine g_sld hF2 hs (by decide +kernel : decode cL_law 3127 = .ok (.iaload, 1)) ?_ ?_
  · exact ⟨by first | omega | (show (0 : Int) ≤ (i : Int) + _; omega), by first | omega | (show (i : Int) + _ < (L : Int); omega)⟩
  refine g_callV hF2 lkL_307 (hM m1 hq) (by decide +kernel : decode cL_law 3128 = .ok (.invokevirtual 307, 3)) (by decide) rfl rfl rfl rfl jok51 (Nat.le_of_ble_eq_true rfl) (fun v2 m2 h2 => ?_)
  obtain ⟨e1, e2, ⟨b, rfl⟩, e4⟩ := h2
  refine g_istore hF2 (by decide +kernel : decode cL_law 3131 = .ok (.istore 7, 2)) (by decide) ?_
  refine g_aload_n hF2 (by decide +kernel : decode cL_law 3133 = .ok (.aload_n 2, 1)) rfl ?_
  refine g_callV hF2 lkL_176 (c_X5_thrown X hX _) (by decide +kernel : decode cL_law 3134 = .ok (.invokevirtual 176, 3)) (by decide) rfl rfl rfl rfl jok51 (Nat.le_of_ble_eq_true rfl) (fun v3 m3 h3 => ?_)
  obtain ⟨rfl, e3⟩ := h3
  obtain rfl := e3.symm
  rw [e1]
  refine g_iload hF2 (by decide +kernel : decode cL_law 3137 = .ok (.iload 6, 2)) rfl ?_
  refine g_icmp_eq hF2 (tgt := 3144) (by decide +kernel : decode cL_law 3139 = .ok (.if_icmp .eq 5, 3)) (by decide) (by omega) (by omega) (fun c3139 => ?_) (fun c3139 => absurd rfl c3139)
  refine g_iload hF2 (by decide +kernel : decode cL_law 3144 = .ok (.iload 6, 2)) rfl ?_
  refine g_if_ne hF2 (tgt := 3161) (by decide +kernel : decode cL_law 3146 = .ok (.ifCond .ne 15, 3)) (by decide) (by omega) (fun c3146 => ?_) (fun c3146 => ?_)
  · skip
    refine g_goto hF2 (tgt := 3451) (by decide +kernel : decode cL_law 3161 = .ok (.goto 290, 3)) (by decide) ?_
    refine g_take 6 ?_
    exact k _ e2
  · skip
    obtain ⟨b2, hb2, hv⟩ := e4 c3146
    cases hb2
    refine g_aload_n hF2 (by decide +kernel : decode cL_law 3149 = .ok (.aload_n 3, 1)) rfl ?_
    refine g_iconst hF2 (by decide +kernel : decode cL_law 3150 = .ok (.iconst 0, 1)) ?_
    refine g_laload hF2 (by decide +kernel : decode cL_law 3151 = .ok (.laload, 1)) ?_
    rw [hv]
    refine g_iload hF2 (by decide +kernel : decode cL_law 3152 = .ok (.iload 7, 2)) rfl ?_
    refine g_i2lN hF2 (by decide +kernel : decode cL_law 3154 = .ok (.i2l, 1)) ?_
    refine g_lcmpE hF2 (by decide +kernel : decode cL_law 3155 = .ok (.lcmp, 1)) rfl ?_
    refine g_if_eq hF2 (tgt := 3161) (by decide +kernel : decode cL_law 3156 = .ok (.ifCond .eq 5, 3)) (by decide) (by decide) (fun c3156 => ?_) (fun c3156 => absurd rfl c3156)
    refine g_goto hF2 (tgt := 3451) (by decide +kernel : decode cL_law 3161 = .ok (.goto 290, 3)) (by decide) ?_
    refine g_take 6 ?_
    exact k _ e2

/-! BLOCKS of the law -/
set_option maxHeartbeats 4000000 in
set_option maxRecDepth 100000 in
theorem lb_36 {F : jF} {X : jX} {L : Nat} {xs : Nat → Int32} (hF : jOk F X RL cL_law 10 (some .boolean) 20) (hX : jxok X) (hs : jScr F X L xs) (hroom : fk F + 1 ≤ (fR F).cells ∧ fn F + 6 ≤ (fR F).slots) (i : Nat) (hi : i + 5 ≤ L) (m : jM) (hR : Rel m) (k : ∀ m9 : jM, Rel m9 → jG (fup F (fk F + 1) (fn F + 6)) X m9 3451 (lw0 i) []) : jG F X m 2860 (lw0 i) [] := by
  have hF2 := hF.up (k := fk F + 1) (n := fn F + 6) hroom.1 hroom.2
  obtain ⟨c, Q, hc, hW, hM⟩ := st_order X hX (sx xs ((i : Int) + 1)) (sx_r _ _) m hR
  refine g_aload_n hF (by decide +kernel : decode cL_law 2860 = .ok (.aload_n 1, 1)) rfl ?_
  refine g_aload_n hF (by decide +kernel : decode cL_law 2861 = .ok (.aload_n 0, 1)) rfl ?_
  refine g_iload hF (by decide +kernel : decode cL_law 2862 = .ok (.iload 5, 2)) rfl ?_
  refine g_iconst hF (by decide +kernel : decode cL_law 2864 = .ok (.iconst 1, 1)) ?_
  refine g_iadd hF (by decide +kernel : decode cL_law 2865 = .ok (.iadd, 1)) ?_
  refine g_sld hF hs (by decide +kernel : decode cL_law 2866 = .ok (.iaload, 1)) ?_ ?_
  · exact ⟨by first | omega | (show (0 : Int) ≤ (i : Int) + _; omega), by first | omega | (show (i : Int) + _ < (L : Int); omega)⟩
  refine g_aload_n hF (by decide +kernel : decode cL_law 2867 = .ok (.aload_n 3, 1)) rfl ?_
  refine g_callL hF lkL_289 hW (by decide +kernel : decode cL_law 2868 = .ok (.invokestatic 289, 3)) (by decide) rfl rfl (Nat.le_of_ble_eq_true rfl) hroom (fun v1 m1 h1 => ?_)
  obtain ⟨rfl, hq⟩ := h1
  refine g_istore hF2 (by decide +kernel : decode cL_law 2871 = .ok (.istore 6, 2)) (by decide) ?_
  refine g_aload_n hF2 (by decide +kernel : decode cL_law 2873 = .ok (.aload_n 2, 1)) rfl ?_
  refine g_aload_n hF2 (by decide +kernel : decode cL_law 2874 = .ok (.aload_n 0, 1)) rfl ?_
  refine g_iload hF2 (by decide +kernel : decode cL_law 2875 = .ok (.iload 5, 2)) rfl ?_
  refine g_iconst hF2 (by decide +kernel : decode cL_law 2877 = .ok (.iconst 1, 1)) ?_
  refine g_iadd hF2 (by decide +kernel : decode cL_law 2878 = .ok (.iadd, 1)) ?_
  refine g_sld hF2 hs (by decide +kernel : decode cL_law 2879 = .ok (.iaload, 1)) ?_ ?_
  · exact ⟨by first | omega | (show (0 : Int) ≤ (i : Int) + _; omega), by first | omega | (show (i : Int) + _ < (L : Int); omega)⟩
  refine g_callV hF2 lkL_291 (hM m1 hq) (by decide +kernel : decode cL_law 2880 = .ok (.invokevirtual 291, 3)) (by decide) rfl rfl rfl rfl jok51 (Nat.le_of_ble_eq_true rfl) (fun v2 m2 h2 => ?_)
  obtain ⟨e1, e2, ⟨b, rfl⟩, e4⟩ := h2
  refine g_lstore hF2 (by decide +kernel : decode cL_law 2883 = .ok (.lstore 7, 2)) (by decide) ?_
  refine g_aload_n hF2 (by decide +kernel : decode cL_law 2885 = .ok (.aload_n 2, 1)) rfl ?_
  refine g_callV hF2 lkL_176 (c_X5_thrown X hX _) (by decide +kernel : decode cL_law 2886 = .ok (.invokevirtual 176, 3)) (by decide) rfl rfl rfl rfl jok51 (Nat.le_of_ble_eq_true rfl) (fun v3 m3 h3 => ?_)
  obtain ⟨rfl, e3⟩ := h3
  obtain rfl := e3.symm
  rw [e1]
  refine g_iload hF2 (by decide +kernel : decode cL_law 2889 = .ok (.iload 6, 2)) rfl ?_
  refine g_icmp_eq hF2 (tgt := 2896) (by decide +kernel : decode cL_law 2891 = .ok (.if_icmp .eq 5, 3)) (by decide) (by omega) (by omega) (fun c2891 => ?_) (fun c2891 => absurd rfl c2891)
  refine g_iload hF2 (by decide +kernel : decode cL_law 2896 = .ok (.iload 6, 2)) rfl ?_
  refine g_if_ne hF2 (tgt := 2912) (by decide +kernel : decode cL_law 2898 = .ok (.ifCond .ne 14, 3)) (by decide) (by omega) (fun c2898 => ?_) (fun c2898 => ?_)
  · skip
    refine g_goto hF2 (tgt := 3451) (by decide +kernel : decode cL_law 2912 = .ok (.goto 539, 3)) (by decide) ?_
    refine g_take 6 ?_
    exact k _ e2
  · skip
    obtain ⟨b2, hb2, hv, hj⟩ := e4 c2898
    cases hb2
    refine g_aload_n hF2 (by decide +kernel : decode cL_law 2901 = .ok (.aload_n 3, 1)) rfl ?_
    refine g_iconst hF2 (by decide +kernel : decode cL_law 2902 = .ok (.iconst 0, 1)) ?_
    refine g_laload hF2 (by decide +kernel : decode cL_law 2903 = .ok (.laload, 1)) ?_
    rw [hv]
    refine g_lload hF2 (by decide +kernel : decode cL_law 2904 = .ok (.lload 7, 2)) rfl ?_
    refine g_lcmpE hF2 (by decide +kernel : decode cL_law 2906 = .ok (.lcmp, 1)) rfl ?_
    refine g_if_eq hF2 (tgt := 2912) (by decide +kernel : decode cL_law 2907 = .ok (.ifCond .eq 5, 3)) (by decide) (by decide) (fun c2907 => ?_) (fun c2907 => absurd rfl c2907)
    refine g_goto hF2 (tgt := 3451) (by decide +kernel : decode cL_law 2912 = .ok (.goto 539, 3)) (by decide) ?_
    refine g_take 6 ?_
    exact k _ e2
set_option maxHeartbeats 4000000 in
set_option maxRecDepth 100000 in
theorem lb_42 {F : jF} {X : jX} {L : Nat} {xs : Nat → Int32} (hF : jOk F X RL cL_law 10 (some .boolean) 20) (hX : jxok X) (hs : jScr F X L xs) (hroom : fk F + 1 ≤ (fR F).cells ∧ fn F + 6 ≤ (fR F).slots) (i : Nat) (hi : i + 5 ≤ L) (m : jM) (hR : Rel m) (k : ∀ m9 : jM, Rel m9 → jG (fup F (fk F + 1) (fn F + 6)) X m9 3451 (lw0 i) []) : jG F X m 3164 (lw0 i) [] := by
  have hF2 := hF.up (k := fk F + 1) (n := fn F + 6) hroom.1 hroom.2
  rcases Classical.em (sx xs ((i : Int) + 2) = 0) with hz | hz
  · skip
    obtain ⟨c, Q, hc, hW, hM⟩ := st_playLast X hX (sx xs ((i : Int) + 1)) (sx_r _ _) 0 (by decide) m hR
    refine g_aload_n hF (by decide +kernel : decode cL_law 3164 = .ok (.aload_n 1, 1)) rfl ?_
    refine g_aload_n hF (by decide +kernel : decode cL_law 3165 = .ok (.aload_n 0, 1)) rfl ?_
    refine g_iload hF (by decide +kernel : decode cL_law 3166 = .ok (.iload 5, 2)) rfl ?_
    refine g_iconst hF (by decide +kernel : decode cL_law 3168 = .ok (.iconst 1, 1)) ?_
    refine g_iadd hF (by decide +kernel : decode cL_law 3169 = .ok (.iadd, 1)) ?_
    refine g_sld hF hs (by decide +kernel : decode cL_law 3170 = .ok (.iaload, 1)) ?_ ?_
    · exact ⟨by first | omega | (show (0 : Int) ≤ (i : Int) + _; omega), by first | omega | (show (i : Int) + _ < (L : Int); omega)⟩
    refine g_aload_n hF (by decide +kernel : decode cL_law 3171 = .ok (.aload_n 0, 1)) rfl ?_
    refine g_iload hF (by decide +kernel : decode cL_law 3172 = .ok (.iload 5, 2)) rfl ?_
    refine g_iconst hF (by decide +kernel : decode cL_law 3174 = .ok (.iconst 2, 1)) ?_
    refine g_iadd hF (by decide +kernel : decode cL_law 3175 = .ok (.iadd, 1)) ?_
    refine g_sld hF hs (by decide +kernel : decode cL_law 3176 = .ok (.iaload, 1)) ?_ ?_
    · exact ⟨by first | omega | (show (0 : Int) ≤ (i : Int) + _; omega), by first | omega | (show (i : Int) + _ < (L : Int); omega)⟩
    refine g_if_eq hF (tgt := 3184) (by decide +kernel : decode cL_law 3177 = .ok (.ifCond .eq 7, 3)) (by decide) (sx_r _ _) (fun c3177 => ?_) (fun c3177 => absurd hz c3177)
    refine g_iconst hF (by decide +kernel : decode cL_law 3184 = .ok (.iconst 0, 1)) ?_
    refine g_aload_n hF (by decide +kernel : decode cL_law 3185 = .ok (.aload_n 3, 1)) rfl ?_
    refine g_callL hF lkL_308 hW (by decide +kernel : decode cL_law 3186 = .ok (.invokestatic 308, 3)) (by decide) rfl rfl (Nat.le_of_ble_eq_true rfl) hroom (fun v1 m1 h1 => ?_)
    obtain ⟨rfl, hq⟩ := h1
    refine g_istore hF2 (by decide +kernel : decode cL_law 3189 = .ok (.istore 6, 2)) (by decide) ?_
    refine g_aload_n hF2 (by decide +kernel : decode cL_law 3191 = .ok (.aload_n 2, 1)) rfl ?_
    refine g_aload_n hF2 (by decide +kernel : decode cL_law 3192 = .ok (.aload_n 0, 1)) rfl ?_
    refine g_iload hF2 (by decide +kernel : decode cL_law 3193 = .ok (.iload 5, 2)) rfl ?_
    refine g_iconst hF2 (by decide +kernel : decode cL_law 3195 = .ok (.iconst 1, 1)) ?_
    refine g_iadd hF2 (by decide +kernel : decode cL_law 3196 = .ok (.iadd, 1)) ?_
    refine g_sld hF2 hs (by decide +kernel : decode cL_law 3197 = .ok (.iaload, 1)) ?_ ?_
    · exact ⟨by first | omega | (show (0 : Int) ≤ (i : Int) + _; omega), by first | omega | (show (i : Int) + _ < (L : Int); omega)⟩
    refine g_aload_n hF2 (by decide +kernel : decode cL_law 3198 = .ok (.aload_n 0, 1)) rfl ?_
    refine g_iload hF2 (by decide +kernel : decode cL_law 3199 = .ok (.iload 5, 2)) rfl ?_
    refine g_iconst hF2 (by decide +kernel : decode cL_law 3201 = .ok (.iconst 2, 1)) ?_
    refine g_iadd hF2 (by decide +kernel : decode cL_law 3202 = .ok (.iadd, 1)) ?_
    refine g_sld hF2 hs (by decide +kernel : decode cL_law 3203 = .ok (.iaload, 1)) ?_ ?_
    · exact ⟨by first | omega | (show (0 : Int) ≤ (i : Int) + _; omega), by first | omega | (show (i : Int) + _ < (L : Int); omega)⟩
    refine g_if_eq hF2 (tgt := 3211) (by decide +kernel : decode cL_law 3204 = .ok (.ifCond .eq 7, 3)) (by decide) (sx_r _ _) (fun c3204 => ?_) (fun c3204 => absurd hz c3204)
    refine g_iconst hF2 (by decide +kernel : decode cL_law 3211 = .ok (.iconst 0, 1)) ?_
    refine g_callV hF2 lkL_311 (hM m1 hq) (by decide +kernel : decode cL_law 3212 = .ok (.invokevirtual 311, 3)) (by decide) rfl rfl rfl rfl jok51 (Nat.le_of_ble_eq_true rfl) (fun v2 m2 h2 => ?_)
    obtain ⟨e1, e2, ⟨b, rfl⟩, e4⟩ := h2
    refine g_istore hF2 (by decide +kernel : decode cL_law 3215 = .ok (.istore 7, 2)) (by decide) ?_
    refine g_aload_n hF2 (by decide +kernel : decode cL_law 3217 = .ok (.aload_n 2, 1)) rfl ?_
    refine g_callV hF2 lkL_176 (c_X5_thrown X hX _) (by decide +kernel : decode cL_law 3218 = .ok (.invokevirtual 176, 3)) (by decide) rfl rfl rfl rfl jok51 (Nat.le_of_ble_eq_true rfl) (fun v3 m3 h3 => ?_)
    obtain ⟨rfl, e3⟩ := h3
    obtain rfl := e3.symm
    rw [e1]
    refine g_iload hF2 (by decide +kernel : decode cL_law 3221 = .ok (.iload 6, 2)) rfl ?_
    refine g_icmp_eq hF2 (tgt := 3228) (by decide +kernel : decode cL_law 3223 = .ok (.if_icmp .eq 5, 3)) (by decide) (by omega) (by omega) (fun c3223 => ?_) (fun c3223 => absurd rfl c3223)
    refine g_iload hF2 (by decide +kernel : decode cL_law 3228 = .ok (.iload 6, 2)) rfl ?_
    refine g_if_ne hF2 (tgt := 3245) (by decide +kernel : decode cL_law 3230 = .ok (.ifCond .ne 15, 3)) (by decide) (by omega) (fun c3230 => ?_) (fun c3230 => ?_)
    · skip
      refine g_goto hF2 (tgt := 3451) (by decide +kernel : decode cL_law 3245 = .ok (.goto 206, 3)) (by decide) ?_
      refine g_take 6 ?_
      exact k _ e2
    · skip
      obtain ⟨b2, hb2, hv⟩ := e4 c3230
      cases hb2
      refine g_aload_n hF2 (by decide +kernel : decode cL_law 3233 = .ok (.aload_n 3, 1)) rfl ?_
      refine g_iconst hF2 (by decide +kernel : decode cL_law 3234 = .ok (.iconst 0, 1)) ?_
      refine g_laload hF2 (by decide +kernel : decode cL_law 3235 = .ok (.laload, 1)) ?_
      rw [hv]
      refine g_iload hF2 (by decide +kernel : decode cL_law 3236 = .ok (.iload 7, 2)) rfl ?_
      refine g_i2lN hF2 (by decide +kernel : decode cL_law 3238 = .ok (.i2l, 1)) ?_
      refine g_lcmpE hF2 (by decide +kernel : decode cL_law 3239 = .ok (.lcmp, 1)) rfl ?_
      refine g_if_eq hF2 (tgt := 3245) (by decide +kernel : decode cL_law 3240 = .ok (.ifCond .eq 5, 3)) (by decide) (by decide) (fun c3240 => ?_) (fun c3240 => absurd rfl c3240)
      refine g_goto hF2 (tgt := 3451) (by decide +kernel : decode cL_law 3245 = .ok (.goto 206, 3)) (by decide) ?_
      refine g_take 6 ?_
      exact k _ e2
  · skip
    obtain ⟨c, Q, hc, hW, hM⟩ := st_playLast X hX (sx xs ((i : Int) + 1)) (sx_r _ _) 1 (by decide) m hR
    refine g_aload_n hF (by decide +kernel : decode cL_law 3164 = .ok (.aload_n 1, 1)) rfl ?_
    refine g_aload_n hF (by decide +kernel : decode cL_law 3165 = .ok (.aload_n 0, 1)) rfl ?_
    refine g_iload hF (by decide +kernel : decode cL_law 3166 = .ok (.iload 5, 2)) rfl ?_
    refine g_iconst hF (by decide +kernel : decode cL_law 3168 = .ok (.iconst 1, 1)) ?_
    refine g_iadd hF (by decide +kernel : decode cL_law 3169 = .ok (.iadd, 1)) ?_
    refine g_sld hF hs (by decide +kernel : decode cL_law 3170 = .ok (.iaload, 1)) ?_ ?_
    · exact ⟨by first | omega | (show (0 : Int) ≤ (i : Int) + _; omega), by first | omega | (show (i : Int) + _ < (L : Int); omega)⟩
    refine g_aload_n hF (by decide +kernel : decode cL_law 3171 = .ok (.aload_n 0, 1)) rfl ?_
    refine g_iload hF (by decide +kernel : decode cL_law 3172 = .ok (.iload 5, 2)) rfl ?_
    refine g_iconst hF (by decide +kernel : decode cL_law 3174 = .ok (.iconst 2, 1)) ?_
    refine g_iadd hF (by decide +kernel : decode cL_law 3175 = .ok (.iadd, 1)) ?_
    refine g_sld hF hs (by decide +kernel : decode cL_law 3176 = .ok (.iaload, 1)) ?_ ?_
    · exact ⟨by first | omega | (show (0 : Int) ≤ (i : Int) + _; omega), by first | omega | (show (i : Int) + _ < (L : Int); omega)⟩
    refine g_if_eq hF (tgt := 3184) (by decide +kernel : decode cL_law 3177 = .ok (.ifCond .eq 7, 3)) (by decide) (sx_r _ _) (fun c3177 => absurd c3177 hz) (fun c3177 => ?_)
    refine g_iconst hF (by decide +kernel : decode cL_law 3180 = .ok (.iconst 1, 1)) ?_
    refine g_goto hF (tgt := 3185) (by decide +kernel : decode cL_law 3181 = .ok (.goto 4, 3)) (by decide) ?_
    refine g_aload_n hF (by decide +kernel : decode cL_law 3185 = .ok (.aload_n 3, 1)) rfl ?_
    refine g_callL hF lkL_308 hW (by decide +kernel : decode cL_law 3186 = .ok (.invokestatic 308, 3)) (by decide) rfl rfl (Nat.le_of_ble_eq_true rfl) hroom (fun v1 m1 h1 => ?_)
    obtain ⟨rfl, hq⟩ := h1
    refine g_istore hF2 (by decide +kernel : decode cL_law 3189 = .ok (.istore 6, 2)) (by decide) ?_
    refine g_aload_n hF2 (by decide +kernel : decode cL_law 3191 = .ok (.aload_n 2, 1)) rfl ?_
    refine g_aload_n hF2 (by decide +kernel : decode cL_law 3192 = .ok (.aload_n 0, 1)) rfl ?_
    refine g_iload hF2 (by decide +kernel : decode cL_law 3193 = .ok (.iload 5, 2)) rfl ?_
    refine g_iconst hF2 (by decide +kernel : decode cL_law 3195 = .ok (.iconst 1, 1)) ?_
    refine g_iadd hF2 (by decide +kernel : decode cL_law 3196 = .ok (.iadd, 1)) ?_
    refine g_sld hF2 hs (by decide +kernel : decode cL_law 3197 = .ok (.iaload, 1)) ?_ ?_
    · exact ⟨by first | omega | (show (0 : Int) ≤ (i : Int) + _; omega), by first | omega | (show (i : Int) + _ < (L : Int); omega)⟩
    refine g_aload_n hF2 (by decide +kernel : decode cL_law 3198 = .ok (.aload_n 0, 1)) rfl ?_
    refine g_iload hF2 (by decide +kernel : decode cL_law 3199 = .ok (.iload 5, 2)) rfl ?_
    refine g_iconst hF2 (by decide +kernel : decode cL_law 3201 = .ok (.iconst 2, 1)) ?_
    refine g_iadd hF2 (by decide +kernel : decode cL_law 3202 = .ok (.iadd, 1)) ?_
    refine g_sld hF2 hs (by decide +kernel : decode cL_law 3203 = .ok (.iaload, 1)) ?_ ?_
    · exact ⟨by first | omega | (show (0 : Int) ≤ (i : Int) + _; omega), by first | omega | (show (i : Int) + _ < (L : Int); omega)⟩
    refine g_if_eq hF2 (tgt := 3211) (by decide +kernel : decode cL_law 3204 = .ok (.ifCond .eq 7, 3)) (by decide) (sx_r _ _) (fun c3204 => absurd c3204 hz) (fun c3204 => ?_)
    refine g_iconst hF2 (by decide +kernel : decode cL_law 3207 = .ok (.iconst 1, 1)) ?_
    refine g_goto hF2 (tgt := 3212) (by decide +kernel : decode cL_law 3208 = .ok (.goto 4, 3)) (by decide) ?_
    refine g_callV hF2 lkL_311 (hM m1 hq) (by decide +kernel : decode cL_law 3212 = .ok (.invokevirtual 311, 3)) (by decide) rfl rfl rfl rfl jok51 (Nat.le_of_ble_eq_true rfl) (fun v2 m2 h2 => ?_)
    obtain ⟨e1, e2, ⟨b, rfl⟩, e4⟩ := h2
    refine g_istore hF2 (by decide +kernel : decode cL_law 3215 = .ok (.istore 7, 2)) (by decide) ?_
    refine g_aload_n hF2 (by decide +kernel : decode cL_law 3217 = .ok (.aload_n 2, 1)) rfl ?_
    refine g_callV hF2 lkL_176 (c_X5_thrown X hX _) (by decide +kernel : decode cL_law 3218 = .ok (.invokevirtual 176, 3)) (by decide) rfl rfl rfl rfl jok51 (Nat.le_of_ble_eq_true rfl) (fun v3 m3 h3 => ?_)
    obtain ⟨rfl, e3⟩ := h3
    obtain rfl := e3.symm
    rw [e1]
    refine g_iload hF2 (by decide +kernel : decode cL_law 3221 = .ok (.iload 6, 2)) rfl ?_
    refine g_icmp_eq hF2 (tgt := 3228) (by decide +kernel : decode cL_law 3223 = .ok (.if_icmp .eq 5, 3)) (by decide) (by omega) (by omega) (fun c3223 => ?_) (fun c3223 => absurd rfl c3223)
    refine g_iload hF2 (by decide +kernel : decode cL_law 3228 = .ok (.iload 6, 2)) rfl ?_
    refine g_if_ne hF2 (tgt := 3245) (by decide +kernel : decode cL_law 3230 = .ok (.ifCond .ne 15, 3)) (by decide) (by omega) (fun c3230 => ?_) (fun c3230 => ?_)
    · skip
      refine g_goto hF2 (tgt := 3451) (by decide +kernel : decode cL_law 3245 = .ok (.goto 206, 3)) (by decide) ?_
      refine g_take 6 ?_
      exact k _ e2
    · skip
      obtain ⟨b2, hb2, hv⟩ := e4 c3230
      cases hb2
      refine g_aload_n hF2 (by decide +kernel : decode cL_law 3233 = .ok (.aload_n 3, 1)) rfl ?_
      refine g_iconst hF2 (by decide +kernel : decode cL_law 3234 = .ok (.iconst 0, 1)) ?_
      refine g_laload hF2 (by decide +kernel : decode cL_law 3235 = .ok (.laload, 1)) ?_
      rw [hv]
      refine g_iload hF2 (by decide +kernel : decode cL_law 3236 = .ok (.iload 7, 2)) rfl ?_
      refine g_i2lN hF2 (by decide +kernel : decode cL_law 3238 = .ok (.i2l, 1)) ?_
      refine g_lcmpE hF2 (by decide +kernel : decode cL_law 3239 = .ok (.lcmp, 1)) rfl ?_
      refine g_if_eq hF2 (tgt := 3245) (by decide +kernel : decode cL_law 3240 = .ok (.ifCond .eq 5, 3)) (by decide) (by decide) (fun c3240 => ?_) (fun c3240 => absurd rfl c3240)
      refine g_goto hF2 (tgt := 3451) (by decide +kernel : decode cL_law 3245 = .ok (.goto 206, 3)) (by decide) ?_
      refine g_take 6 ?_
      exact k _ e2
set_option maxHeartbeats 4000000 in
set_option maxRecDepth 100000 in
theorem lb_45 {F : jF} {X : jX} {L : Nat} {xs : Nat → Int32} (hF : jOk F X RL cL_law 10 (some .boolean) 20) (hX : jxok X) (hs : jScr F X L xs) (hroom : fk F + 1 ≤ (fR F).cells ∧ fn F + 6 ≤ (fR F).slots) (i : Nat) (hi : i + 5 ≤ L) (m : jM) (hR : Rel m) (k : ∀ m9 : jM, Rel m9 → jG (fup F (fk F + 1) (fn F + 6)) X m9 3451 (lw0 i) []) : jG F X m 3305 (lw0 i) [] := by
  have hF2 := hF.up (k := fk F + 1) (n := fn F + 6) hroom.1 hroom.2
  obtain ⟨c, Q, hc, hW, hM⟩ := st_share X hX (sx xs ((i : Int) + 1)) (sx_r _ _) m hR
  refine g_aload_n hF (by decide +kernel : decode cL_law 3305 = .ok (.aload_n 1, 1)) rfl ?_
  refine g_aload_n hF (by decide +kernel : decode cL_law 3306 = .ok (.aload_n 0, 1)) rfl ?_
  refine g_iload hF (by decide +kernel : decode cL_law 3307 = .ok (.iload 5, 2)) rfl ?_
  refine g_iconst hF (by decide +kernel : decode cL_law 3309 = .ok (.iconst 1, 1)) ?_
  refine g_iadd hF (by decide +kernel : decode cL_law 3310 = .ok (.iadd, 1)) ?_
  refine g_sld hF hs (by decide +kernel : decode cL_law 3311 = .ok (.iaload, 1)) ?_ ?_
  · exact ⟨by first | omega | (show (0 : Int) ≤ (i : Int) + _; omega), by first | omega | (show (i : Int) + _ < (L : Int); omega)⟩
  refine g_aload hF (by decide +kernel : decode cL_law 3312 = .ok (.aload 4, 2)) rfl ?_
  refine g_callL hF lkL_320 hW (by decide +kernel : decode cL_law 3314 = .ok (.invokestatic 320, 3)) (by decide) rfl rfl (Nat.le_of_ble_eq_true rfl) hroom (fun v1 m1 h1 => ?_)
  obtain ⟨rfl, hq⟩ := h1
  refine g_istore hF2 (by decide +kernel : decode cL_law 3317 = .ok (.istore 6, 2)) (by decide) ?_
  refine g_aload_n hF2 (by decide +kernel : decode cL_law 3319 = .ok (.aload_n 2, 1)) rfl ?_
  refine g_aload_n hF2 (by decide +kernel : decode cL_law 3320 = .ok (.aload_n 0, 1)) rfl ?_
  refine g_iload hF2 (by decide +kernel : decode cL_law 3321 = .ok (.iload 5, 2)) rfl ?_
  refine g_iconst hF2 (by decide +kernel : decode cL_law 3323 = .ok (.iconst 1, 1)) ?_
  refine g_iadd hF2 (by decide +kernel : decode cL_law 3324 = .ok (.iadd, 1)) ?_
  refine g_sld hF2 hs (by decide +kernel : decode cL_law 3325 = .ok (.iaload, 1)) ?_ ?_
  · exact ⟨by first | omega | (show (0 : Int) ≤ (i : Int) + _; omega), by first | omega | (show (i : Int) + _ < (L : Int); omega)⟩
  refine g_callV hF2 lkL_323 (hM m1 hq) (by decide +kernel : decode cL_law 3326 = .ok (.invokevirtual 323, 3)) (by decide) rfl rfl rfl rfl jok51 (Nat.le_of_ble_eq_true rfl) (fun v2 m2 h2 => ?_)
  obtain ⟨e1, e2, ⟨b, rfl⟩, e4⟩ := h2
  refine g_fstore hF2 (by decide +kernel : decode cL_law 3329 = .ok (.fstore 7, 2)) (by decide) ?_
  refine g_aload_n hF2 (by decide +kernel : decode cL_law 3331 = .ok (.aload_n 2, 1)) rfl ?_
  refine g_callV hF2 lkL_176 (c_X5_thrown X hX _) (by decide +kernel : decode cL_law 3332 = .ok (.invokevirtual 176, 3)) (by decide) rfl rfl rfl rfl jok51 (Nat.le_of_ble_eq_true rfl) (fun v3 m3 h3 => ?_)
  obtain ⟨rfl, e3⟩ := h3
  obtain rfl := e3.symm
  rw [e1]
  refine g_iload hF2 (by decide +kernel : decode cL_law 3335 = .ok (.iload 6, 2)) rfl ?_
  refine g_icmp_eq hF2 (tgt := 3342) (by decide +kernel : decode cL_law 3337 = .ok (.if_icmp .eq 5, 3)) (by decide) (by omega) (by omega) (fun c3337 => ?_) (fun c3337 => absurd rfl c3337)
  refine g_iload hF2 (by decide +kernel : decode cL_law 3342 = .ok (.iload 6, 2)) rfl ?_
  refine g_if_ne hF2 (tgt := 3380) (by decide +kernel : decode cL_law 3344 = .ok (.ifCond .ne 36, 3)) (by decide) (by omega) (fun c3344 => ?_) (fun c3344 => ?_)
  · skip
    refine g_goto hF2 (tgt := 3451) (by decide +kernel : decode cL_law 3380 = .ok (.goto 71, 3)) (by decide) ?_
    refine g_take 6 ?_
    exact k _ e2
  · skip
    obtain ⟨b2, hb2, hv, hn⟩ := e4 c3344
    cases hb2
    refine g_aload hF2 (by decide +kernel : decode cL_law 3347 = .ok (.aload 4, 2)) rfl ?_
    refine g_iconst hF2 (by decide +kernel : decode cL_law 3349 = .ok (.iconst 0, 1)) ?_
    refine g_daload hF2 (by decide +kernel : decode cL_law 3350 = .ok (.daload, 1)) ?_
    rw [hv, iD_dI]
    refine g_fload hF2 (by decide +kernel : decode cL_law 3351 = .ok (.fload 7, 2)) rfl ?_
    refine g_f2d hF2 (by decide +kernel : decode cL_law 3353 = .ok (.f2d, 1)) (f2d_n hn) ?_
    refine g_dcmpE hF2 (by decide +kernel : decode cL_law 3354 = .ok (.dcmp .l, 1)) rfl (f2d_nan hn) ?_
    refine g_if_eq hF2 (tgt := 3380) (by decide +kernel : decode cL_law 3355 = .ok (.ifCond .eq 25, 3)) (by decide) (by decide) (fun c3355 => ?_) (fun c3355 => absurd rfl c3355)
    refine g_goto hF2 (tgt := 3451) (by decide +kernel : decode cL_law 3380 = .ok (.goto 71, 3)) (by decide) ?_
    refine g_take 6 ?_
    exact k _ e2
set_option maxHeartbeats 4000000 in
set_option maxRecDepth 100000 in
theorem lb_44 {F : jF} {X : jX} {L : Nat} {xs : Nat → Int32} (hF : jOk F X RL cL_law 10 (some .boolean) 20) (hX : jxok X) (hs : jScr F X L xs) (hroom : fk F + 1 ≤ (fR F).cells ∧ fn F + 6 ≤ (fR F).slots) (i : Nat) (hi : i + 5 ≤ L) (m : jM) (hR : Rel m) (k : ∀ m9 : jM, Rel m9 → jG (fup F (fk F + 1) (fn F + 6)) X m9 3451 (lw0 i) []) : jG F X m 3261 (lw0 i) [] := by
  have hF2 := hF.up (k := fk F + 1) (n := fn F + 6) hroom.1 hroom.2
  obtain ⟨c, Q, hc, hW, hM⟩ := st_undo X hX m hR
  refine g_aload_n hF (by decide +kernel : decode cL_law 3261 = .ok (.aload_n 1, 1)) rfl ?_
  refine g_aload_n hF (by decide +kernel : decode cL_law 3262 = .ok (.aload_n 3, 1)) rfl ?_
  refine g_callL hF lkL_316 hW (by decide +kernel : decode cL_law 3263 = .ok (.invokestatic 316, 3)) (by decide) rfl rfl (Nat.le_of_ble_eq_true rfl) hroom (fun v1 m1 h1 => ?_)
  obtain ⟨rfl, hq⟩ := h1
  refine g_istore hF2 (by decide +kernel : decode cL_law 3266 = .ok (.istore 6, 2)) (by decide) ?_
  refine g_aload_n hF2 (by decide +kernel : decode cL_law 3268 = .ok (.aload_n 2, 1)) rfl ?_
  refine g_callV hF2 lkL_319 (hM m1 hq) (by decide +kernel : decode cL_law 3269 = .ok (.invokevirtual 319, 3)) (by decide) rfl rfl rfl rfl jok51 (Nat.le_of_ble_eq_true rfl) (fun v2 m2 h2 => ?_)
  obtain ⟨e1, e2, ⟨b, rfl⟩, e4⟩ := h2
  refine g_istore hF2 (by decide +kernel : decode cL_law 3272 = .ok (.istore 7, 2)) (by decide) ?_
  refine g_aload_n hF2 (by decide +kernel : decode cL_law 3274 = .ok (.aload_n 2, 1)) rfl ?_
  refine g_callV hF2 lkL_176 (c_X5_thrown X hX _) (by decide +kernel : decode cL_law 3275 = .ok (.invokevirtual 176, 3)) (by decide) rfl rfl rfl rfl jok51 (Nat.le_of_ble_eq_true rfl) (fun v3 m3 h3 => ?_)
  obtain ⟨rfl, e3⟩ := h3
  obtain rfl := e3.symm
  rw [e1]
  refine g_iload hF2 (by decide +kernel : decode cL_law 3278 = .ok (.iload 6, 2)) rfl ?_
  refine g_icmp_eq hF2 (tgt := 3285) (by decide +kernel : decode cL_law 3280 = .ok (.if_icmp .eq 5, 3)) (by decide) (by omega) (by omega) (fun c3280 => ?_) (fun c3280 => absurd rfl c3280)
  refine g_iload hF2 (by decide +kernel : decode cL_law 3285 = .ok (.iload 6, 2)) rfl ?_
  refine g_if_ne hF2 (tgt := 3302) (by decide +kernel : decode cL_law 3287 = .ok (.ifCond .ne 15, 3)) (by decide) (by omega) (fun c3287 => ?_) (fun c3287 => ?_)
  · skip
    refine g_goto hF2 (tgt := 3451) (by decide +kernel : decode cL_law 3302 = .ok (.goto 149, 3)) (by decide) ?_
    refine g_take 6 ?_
    exact k _ e2
  · skip
    obtain ⟨b2, hb2, hv⟩ := e4 c3287
    cases hb2
    refine g_aload_n hF2 (by decide +kernel : decode cL_law 3290 = .ok (.aload_n 3, 1)) rfl ?_
    refine g_iconst hF2 (by decide +kernel : decode cL_law 3291 = .ok (.iconst 0, 1)) ?_
    refine g_laload hF2 (by decide +kernel : decode cL_law 3292 = .ok (.laload, 1)) ?_
    rw [hv]
    refine g_iload hF2 (by decide +kernel : decode cL_law 3293 = .ok (.iload 7, 2)) rfl ?_
    refine g_i2lN hF2 (by decide +kernel : decode cL_law 3295 = .ok (.i2l, 1)) ?_
    refine g_lcmpE hF2 (by decide +kernel : decode cL_law 3296 = .ok (.lcmp, 1)) rfl ?_
    refine g_if_eq hF2 (tgt := 3302) (by decide +kernel : decode cL_law 3297 = .ok (.ifCond .eq 5, 3)) (by decide) (by decide) (fun c3297 => ?_) (fun c3297 => absurd rfl c3297)
    refine g_goto hF2 (tgt := 3451) (by decide +kernel : decode cL_law 3302 = .ok (.goto 149, 3)) (by decide) ?_
    refine g_take 6 ?_
    exact k _ e2

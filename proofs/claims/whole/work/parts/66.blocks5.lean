/-! BLOCKS of the law -/
set_option maxHeartbeats 4000000 in
set_option maxRecDepth 100000 in
theorem lb_9 {F : jF} {X : jX} {L : Nat} {xs : Nat → Int32} (hF : jOk F X RL cL_law 10 (some .boolean) 20) (hX : jxok X) (hs : jScr F X L xs) (hroom : fk F + 1 ≤ (fR F).cells ∧ fn F + 6 ≤ (fR F).slots) (i : Nat) (hi : i + 5 ≤ L) (m : jM) (hR : Rel m) (k : ∀ m9 : jM, Rel m9 → jG (fup F (fk F + 1) (fn F + 6)) X m9 3451 (lw0 i) []) : jG F X m 982 (lw0 i) [] := by
  have hF2 := hF.up (k := fk F + 1) (n := fn F + 6) hroom.1 hroom.2
  obtain ⟨c, Q, hc, hW, hM⟩ := st_get X hX (sx xs ((i : Int) + 1)) (sx_r _ _) (sx xs ((i : Int) + 2)) (sx_r _ _) m hR
  refine g_aload_n hF (by decide +kernel : decode cL_law 982 = .ok (.aload_n 1, 1)) rfl ?_
  refine g_aload_n hF (by decide +kernel : decode cL_law 983 = .ok (.aload_n 0, 1)) rfl ?_
  refine g_iload hF (by decide +kernel : decode cL_law 984 = .ok (.iload 5, 2)) rfl ?_
  refine g_iconst hF (by decide +kernel : decode cL_law 986 = .ok (.iconst 1, 1)) ?_
  refine g_iadd hF (by decide +kernel : decode cL_law 987 = .ok (.iadd, 1)) ?_
  refine g_sld hF hs (by decide +kernel : decode cL_law 988 = .ok (.iaload, 1)) ?_ ?_
  · exact ⟨by first | omega | (show (0 : Int) ≤ (i : Int) + _; omega), by first | omega | (show (i : Int) + _ < (L : Int); omega)⟩
  refine g_aload_n hF (by decide +kernel : decode cL_law 989 = .ok (.aload_n 0, 1)) rfl ?_
  refine g_iload hF (by decide +kernel : decode cL_law 990 = .ok (.iload 5, 2)) rfl ?_
  refine g_iconst hF (by decide +kernel : decode cL_law 992 = .ok (.iconst 2, 1)) ?_
  refine g_iadd hF (by decide +kernel : decode cL_law 993 = .ok (.iadd, 1)) ?_
  refine g_sld hF hs (by decide +kernel : decode cL_law 994 = .ok (.iaload, 1)) ?_ ?_
  · exact ⟨by first | omega | (show (0 : Int) ≤ (i : Int) + _; omega), by first | omega | (show (i : Int) + _ < (L : Int); omega)⟩
  refine g_aload_n hF (by decide +kernel : decode cL_law 995 = .ok (.aload_n 3, 1)) rfl ?_
  refine g_callL hF lkL_208 hW (by decide +kernel : decode cL_law 996 = .ok (.invokestatic 208, 3)) (by decide) rfl rfl (Nat.le_of_ble_eq_true rfl) hroom (fun v1 m1 h1 => ?_)
  obtain ⟨rfl, hq⟩ := h1
  refine g_istore hF2 (by decide +kernel : decode cL_law 999 = .ok (.istore 6, 2)) (by decide) ?_
  refine g_aload_n hF2 (by decide +kernel : decode cL_law 1001 = .ok (.aload_n 2, 1)) rfl ?_
  refine g_aload_n hF2 (by decide +kernel : decode cL_law 1002 = .ok (.aload_n 0, 1)) rfl ?_
  refine g_iload hF2 (by decide +kernel : decode cL_law 1003 = .ok (.iload 5, 2)) rfl ?_
  refine g_iconst hF2 (by decide +kernel : decode cL_law 1005 = .ok (.iconst 1, 1)) ?_
  refine g_iadd hF2 (by decide +kernel : decode cL_law 1006 = .ok (.iadd, 1)) ?_
  refine g_sld hF2 hs (by decide +kernel : decode cL_law 1007 = .ok (.iaload, 1)) ?_ ?_
  · exact ⟨by first | omega | (show (0 : Int) ≤ (i : Int) + _; omega), by first | omega | (show (i : Int) + _ < (L : Int); omega)⟩
  refine g_aload_n hF2 (by decide +kernel : decode cL_law 1008 = .ok (.aload_n 0, 1)) rfl ?_
  refine g_iload hF2 (by decide +kernel : decode cL_law 1009 = .ok (.iload 5, 2)) rfl ?_
  refine g_iconst hF2 (by decide +kernel : decode cL_law 1011 = .ok (.iconst 2, 1)) ?_
  refine g_iadd hF2 (by decide +kernel : decode cL_law 1012 = .ok (.iadd, 1)) ?_
  refine g_sld hF2 hs (by decide +kernel : decode cL_law 1013 = .ok (.iaload, 1)) ?_ ?_
  · exact ⟨by first | omega | (show (0 : Int) ≤ (i : Int) + _; omega), by first | omega | (show (i : Int) + _ < (L : Int); omega)⟩
  refine g_callV hF2 lkL_210 (hM m1 hq) (by decide +kernel : decode cL_law 1014 = .ok (.invokevirtual 210, 3)) (by decide) rfl rfl rfl rfl jok51 (Nat.le_of_ble_eq_true rfl) (fun v2 m2 h2 => ?_)
  obtain ⟨e1, e2, ⟨b, rfl⟩, e4⟩ := h2
  refine g_istore hF2 (by decide +kernel : decode cL_law 1017 = .ok (.istore 7, 2)) (by decide) ?_
  refine g_aload_n hF2 (by decide +kernel : decode cL_law 1019 = .ok (.aload_n 2, 1)) rfl ?_
  refine g_callV hF2 lkL_176 (c_X5_thrown X hX _) (by decide +kernel : decode cL_law 1020 = .ok (.invokevirtual 176, 3)) (by decide) rfl rfl rfl rfl jok51 (Nat.le_of_ble_eq_true rfl) (fun v3 m3 h3 => ?_)
  obtain ⟨rfl, e3⟩ := h3
  obtain rfl := e3.symm
  rw [e1]
  refine g_iload hF2 (by decide +kernel : decode cL_law 1023 = .ok (.iload 6, 2)) rfl ?_
  refine g_icmp_eq hF2 (tgt := 1030) (by decide +kernel : decode cL_law 1025 = .ok (.if_icmp .eq 5, 3)) (by decide) (by omega) (by omega) (fun c1025 => ?_) (fun c1025 => absurd rfl c1025)
  refine g_iload hF2 (by decide +kernel : decode cL_law 1030 = .ok (.iload 6, 2)) rfl ?_
  refine g_if_ne hF2 (tgt := 1047) (by decide +kernel : decode cL_law 1032 = .ok (.ifCond .ne 15, 3)) (by decide) (by omega) (fun c1032 => ?_) (fun c1032 => ?_)
  · skip
    refine g_goto hF2 (tgt := 3451) (by decide +kernel : decode cL_law 1047 = .ok (.goto 2404, 3)) (by decide) ?_
    refine g_take 6 ?_
    exact k _ e2
  · skip
    obtain ⟨b2, hb2, hv⟩ := e4 c1032
    cases hb2
    refine g_aload_n hF2 (by decide +kernel : decode cL_law 1035 = .ok (.aload_n 3, 1)) rfl ?_
    refine g_iconst hF2 (by decide +kernel : decode cL_law 1036 = .ok (.iconst 0, 1)) ?_
    refine g_laload hF2 (by decide +kernel : decode cL_law 1037 = .ok (.laload, 1)) ?_
    rw [hv]
    refine g_iload hF2 (by decide +kernel : decode cL_law 1038 = .ok (.iload 7, 2)) rfl ?_
    refine g_i2lN hF2 (by decide +kernel : decode cL_law 1040 = .ok (.i2l, 1)) ?_
    refine g_lcmpE hF2 (by decide +kernel : decode cL_law 1041 = .ok (.lcmp, 1)) rfl ?_
    refine g_if_eq hF2 (tgt := 1047) (by decide +kernel : decode cL_law 1042 = .ok (.ifCond .eq 5, 3)) (by decide) (by decide) (fun c1042 => ?_) (fun c1042 => absurd rfl c1042)
    refine g_goto hF2 (tgt := 3451) (by decide +kernel : decode cL_law 1047 = .ok (.goto 2404, 3)) (by decide) ?_
    refine g_take 6 ?_
    exact k _ e2
set_option maxHeartbeats 4000000 in
set_option maxRecDepth 100000 in
theorem lb_10 {F : jF} {X : jX} {L : Nat} {xs : Nat → Int32} (hF : jOk F X RL cL_law 10 (some .boolean) 20) (hX : jxok X) (hs : jScr F X L xs) (hroom : fk F + 1 ≤ (fR F).cells ∧ fn F + 6 ≤ (fR F).slots) (i : Nat) (hi : i + 5 ≤ L) (m : jM) (hR : Rel m) (k : ∀ m9 : jM, Rel m9 → jG (fup F (fk F + 1) (fn F + 6)) X m9 3451 (lw0 i) []) : jG F X m 1050 (lw0 i) [] := by
  have hF2 := hF.up (k := fk F + 1) (n := fn F + 6) hroom.1 hroom.2
  obtain ⟨c, Q, hc, hW, hM⟩ := st_getOr X hX (sx xs ((i : Int) + 1)) (sx_r _ _) (sx xs ((i : Int) + 2)) (sx_r _ _) (sx xs ((i : Int) + 3)) (sx_r _ _) m hR
  refine g_aload_n hF (by decide +kernel : decode cL_law 1050 = .ok (.aload_n 1, 1)) rfl ?_
  refine g_aload_n hF (by decide +kernel : decode cL_law 1051 = .ok (.aload_n 0, 1)) rfl ?_
  refine g_iload hF (by decide +kernel : decode cL_law 1052 = .ok (.iload 5, 2)) rfl ?_
  refine g_iconst hF (by decide +kernel : decode cL_law 1054 = .ok (.iconst 1, 1)) ?_
  refine g_iadd hF (by decide +kernel : decode cL_law 1055 = .ok (.iadd, 1)) ?_
  refine g_sld hF hs (by decide +kernel : decode cL_law 1056 = .ok (.iaload, 1)) ?_ ?_
  · exact ⟨by first | omega | (show (0 : Int) ≤ (i : Int) + _; omega), by first | omega | (show (i : Int) + _ < (L : Int); omega)⟩
  refine g_aload_n hF (by decide +kernel : decode cL_law 1057 = .ok (.aload_n 0, 1)) rfl ?_
  refine g_iload hF (by decide +kernel : decode cL_law 1058 = .ok (.iload 5, 2)) rfl ?_
  refine g_iconst hF (by decide +kernel : decode cL_law 1060 = .ok (.iconst 2, 1)) ?_
  refine g_iadd hF (by decide +kernel : decode cL_law 1061 = .ok (.iadd, 1)) ?_
  refine g_sld hF hs (by decide +kernel : decode cL_law 1062 = .ok (.iaload, 1)) ?_ ?_
  · exact ⟨by first | omega | (show (0 : Int) ≤ (i : Int) + _; omega), by first | omega | (show (i : Int) + _ < (L : Int); omega)⟩
  refine g_aload_n hF (by decide +kernel : decode cL_law 1063 = .ok (.aload_n 0, 1)) rfl ?_
  refine g_iload hF (by decide +kernel : decode cL_law 1064 = .ok (.iload 5, 2)) rfl ?_
  refine g_iconst hF (by decide +kernel : decode cL_law 1066 = .ok (.iconst 3, 1)) ?_
  refine g_iadd hF (by decide +kernel : decode cL_law 1067 = .ok (.iadd, 1)) ?_
  refine g_sld hF hs (by decide +kernel : decode cL_law 1068 = .ok (.iaload, 1)) ?_ ?_
  · exact ⟨by first | omega | (show (0 : Int) ≤ (i : Int) + _; omega), by first | omega | (show (i : Int) + _ < (L : Int); omega)⟩
  refine g_aload_n hF (by decide +kernel : decode cL_law 1069 = .ok (.aload_n 3, 1)) rfl ?_
  refine g_callL hF lkL_211 hW (by decide +kernel : decode cL_law 1070 = .ok (.invokestatic 211, 3)) (by decide) rfl rfl (Nat.le_of_ble_eq_true rfl) hroom (fun v1 m1 h1 => ?_)
  obtain ⟨rfl, hq⟩ := h1
  refine g_istore hF2 (by decide +kernel : decode cL_law 1073 = .ok (.istore 6, 2)) (by decide) ?_
  refine g_aload_n hF2 (by decide +kernel : decode cL_law 1075 = .ok (.aload_n 2, 1)) rfl ?_
  refine g_aload_n hF2 (by decide +kernel : decode cL_law 1076 = .ok (.aload_n 0, 1)) rfl ?_
  refine g_iload hF2 (by decide +kernel : decode cL_law 1077 = .ok (.iload 5, 2)) rfl ?_
  refine g_iconst hF2 (by decide +kernel : decode cL_law 1079 = .ok (.iconst 1, 1)) ?_
  refine g_iadd hF2 (by decide +kernel : decode cL_law 1080 = .ok (.iadd, 1)) ?_
  refine g_sld hF2 hs (by decide +kernel : decode cL_law 1081 = .ok (.iaload, 1)) ?_ ?_
  · exact ⟨by first | omega | (show (0 : Int) ≤ (i : Int) + _; omega), by first | omega | (show (i : Int) + _ < (L : Int); omega)⟩
  refine g_aload_n hF2 (by decide +kernel : decode cL_law 1082 = .ok (.aload_n 0, 1)) rfl ?_
  refine g_iload hF2 (by decide +kernel : decode cL_law 1083 = .ok (.iload 5, 2)) rfl ?_
  refine g_iconst hF2 (by decide +kernel : decode cL_law 1085 = .ok (.iconst 2, 1)) ?_
  refine g_iadd hF2 (by decide +kernel : decode cL_law 1086 = .ok (.iadd, 1)) ?_
  refine g_sld hF2 hs (by decide +kernel : decode cL_law 1087 = .ok (.iaload, 1)) ?_ ?_
  · exact ⟨by first | omega | (show (0 : Int) ≤ (i : Int) + _; omega), by first | omega | (show (i : Int) + _ < (L : Int); omega)⟩
  refine g_aload_n hF2 (by decide +kernel : decode cL_law 1088 = .ok (.aload_n 0, 1)) rfl ?_
  refine g_iload hF2 (by decide +kernel : decode cL_law 1089 = .ok (.iload 5, 2)) rfl ?_
  refine g_iconst hF2 (by decide +kernel : decode cL_law 1091 = .ok (.iconst 3, 1)) ?_
  refine g_iadd hF2 (by decide +kernel : decode cL_law 1092 = .ok (.iadd, 1)) ?_
  refine g_sld hF2 hs (by decide +kernel : decode cL_law 1093 = .ok (.iaload, 1)) ?_ ?_
  · exact ⟨by first | omega | (show (0 : Int) ≤ (i : Int) + _; omega), by first | omega | (show (i : Int) + _ < (L : Int); omega)⟩
  refine g_callV hF2 lkL_213 (hM m1 hq) (by decide +kernel : decode cL_law 1094 = .ok (.invokevirtual 213, 3)) (by decide) rfl rfl rfl rfl jok51 (Nat.le_of_ble_eq_true rfl) (fun v2 m2 h2 => ?_)
  obtain ⟨e1, e2, ⟨b, rfl⟩, e4⟩ := h2
  refine g_istore hF2 (by decide +kernel : decode cL_law 1097 = .ok (.istore 7, 2)) (by decide) ?_
  refine g_aload_n hF2 (by decide +kernel : decode cL_law 1099 = .ok (.aload_n 2, 1)) rfl ?_
  refine g_callV hF2 lkL_176 (c_X5_thrown X hX _) (by decide +kernel : decode cL_law 1100 = .ok (.invokevirtual 176, 3)) (by decide) rfl rfl rfl rfl jok51 (Nat.le_of_ble_eq_true rfl) (fun v3 m3 h3 => ?_)
  obtain ⟨rfl, e3⟩ := h3
  obtain rfl := e3.symm
  rw [e1]
  refine g_iload hF2 (by decide +kernel : decode cL_law 1103 = .ok (.iload 6, 2)) rfl ?_
  refine g_icmp_eq hF2 (tgt := 1110) (by decide +kernel : decode cL_law 1105 = .ok (.if_icmp .eq 5, 3)) (by decide) (by omega) (by omega) (fun c1105 => ?_) (fun c1105 => absurd rfl c1105)
  refine g_iload hF2 (by decide +kernel : decode cL_law 1110 = .ok (.iload 6, 2)) rfl ?_
  refine g_if_ne hF2 (tgt := 1127) (by decide +kernel : decode cL_law 1112 = .ok (.ifCond .ne 15, 3)) (by decide) (by omega) (fun c1112 => ?_) (fun c1112 => ?_)
  · skip
    refine g_goto hF2 (tgt := 3451) (by decide +kernel : decode cL_law 1127 = .ok (.goto 2324, 3)) (by decide) ?_
    refine g_take 6 ?_
    exact k _ e2
  · skip
    obtain ⟨b2, hb2, hv⟩ := e4 c1112
    cases hb2
    refine g_aload_n hF2 (by decide +kernel : decode cL_law 1115 = .ok (.aload_n 3, 1)) rfl ?_
    refine g_iconst hF2 (by decide +kernel : decode cL_law 1116 = .ok (.iconst 0, 1)) ?_
    refine g_laload hF2 (by decide +kernel : decode cL_law 1117 = .ok (.laload, 1)) ?_
    rw [hv]
    refine g_iload hF2 (by decide +kernel : decode cL_law 1118 = .ok (.iload 7, 2)) rfl ?_
    refine g_i2lN hF2 (by decide +kernel : decode cL_law 1120 = .ok (.i2l, 1)) ?_
    refine g_lcmpE hF2 (by decide +kernel : decode cL_law 1121 = .ok (.lcmp, 1)) rfl ?_
    refine g_if_eq hF2 (tgt := 1127) (by decide +kernel : decode cL_law 1122 = .ok (.ifCond .eq 5, 3)) (by decide) (by decide) (fun c1122 => ?_) (fun c1122 => absurd rfl c1122)
    refine g_goto hF2 (tgt := 3451) (by decide +kernel : decode cL_law 1127 = .ok (.goto 2324, 3)) (by decide) ?_
    refine g_take 6 ?_
    exact k _ e2
set_option maxHeartbeats 4000000 in
set_option maxRecDepth 100000 in
theorem lb_12 {F : jF} {X : jX} {L : Nat} {xs : Nat → Int32} (hF : jOk F X RL cL_law 10 (some .boolean) 20) (hX : jxok X) (hs : jScr F X L xs) (hroom : fk F + 1 ≤ (fR F).cells ∧ fn F + 6 ≤ (fR F).slots) (i : Nat) (hi : i + 5 ≤ L) (m : jM) (hR : Rel m) (k : ∀ m9 : jM, Rel m9 → jG (fup F (fk F + 1) (fn F + 6)) X m9 3451 (lw0 i) []) : jG F X m 1205 (lw0 i) [] := by
  have hF2 := hF.up (k := fk F + 1) (n := fn F + 6) hroom.1 hroom.2
  obtain ⟨c, Q, hc, hW, hM⟩ := st_hasValue X hX (sx xs ((i : Int) + 1)) (sx_r _ _) (sx xs ((i : Int) + 2)) (sx_r _ _) m hR
  refine g_aload_n hF (by decide +kernel : decode cL_law 1205 = .ok (.aload_n 1, 1)) rfl ?_
  refine g_aload_n hF (by decide +kernel : decode cL_law 1206 = .ok (.aload_n 0, 1)) rfl ?_
  refine g_iload hF (by decide +kernel : decode cL_law 1207 = .ok (.iload 5, 2)) rfl ?_
  refine g_iconst hF (by decide +kernel : decode cL_law 1209 = .ok (.iconst 1, 1)) ?_
  refine g_iadd hF (by decide +kernel : decode cL_law 1210 = .ok (.iadd, 1)) ?_
  refine g_sld hF hs (by decide +kernel : decode cL_law 1211 = .ok (.iaload, 1)) ?_ ?_
  · exact ⟨by first | omega | (show (0 : Int) ≤ (i : Int) + _; omega), by first | omega | (show (i : Int) + _ < (L : Int); omega)⟩
  refine g_aload_n hF (by decide +kernel : decode cL_law 1212 = .ok (.aload_n 0, 1)) rfl ?_
  refine g_iload hF (by decide +kernel : decode cL_law 1213 = .ok (.iload 5, 2)) rfl ?_
  refine g_iconst hF (by decide +kernel : decode cL_law 1215 = .ok (.iconst 2, 1)) ?_
  refine g_iadd hF (by decide +kernel : decode cL_law 1216 = .ok (.iadd, 1)) ?_
  refine g_sld hF hs (by decide +kernel : decode cL_law 1217 = .ok (.iaload, 1)) ?_ ?_
  · exact ⟨by first | omega | (show (0 : Int) ≤ (i : Int) + _; omega), by first | omega | (show (i : Int) + _ < (L : Int); omega)⟩
  refine g_aload_n hF (by decide +kernel : decode cL_law 1218 = .ok (.aload_n 3, 1)) rfl ?_
  refine g_callL hF lkL_217 hW (by decide +kernel : decode cL_law 1219 = .ok (.invokestatic 217, 3)) (by decide) rfl rfl (Nat.le_of_ble_eq_true rfl) hroom (fun v1 m1 h1 => ?_)
  obtain ⟨rfl, hq⟩ := h1
  refine g_istore hF2 (by decide +kernel : decode cL_law 1222 = .ok (.istore 6, 2)) (by decide) ?_
  refine g_aload_n hF2 (by decide +kernel : decode cL_law 1224 = .ok (.aload_n 2, 1)) rfl ?_
  refine g_aload_n hF2 (by decide +kernel : decode cL_law 1225 = .ok (.aload_n 0, 1)) rfl ?_
  refine g_iload hF2 (by decide +kernel : decode cL_law 1226 = .ok (.iload 5, 2)) rfl ?_
  refine g_iconst hF2 (by decide +kernel : decode cL_law 1228 = .ok (.iconst 1, 1)) ?_
  refine g_iadd hF2 (by decide +kernel : decode cL_law 1229 = .ok (.iadd, 1)) ?_
  refine g_sld hF2 hs (by decide +kernel : decode cL_law 1230 = .ok (.iaload, 1)) ?_ ?_
  · exact ⟨by first | omega | (show (0 : Int) ≤ (i : Int) + _; omega), by first | omega | (show (i : Int) + _ < (L : Int); omega)⟩
  refine g_aload_n hF2 (by decide +kernel : decode cL_law 1231 = .ok (.aload_n 0, 1)) rfl ?_
  refine g_iload hF2 (by decide +kernel : decode cL_law 1232 = .ok (.iload 5, 2)) rfl ?_
  refine g_iconst hF2 (by decide +kernel : decode cL_law 1234 = .ok (.iconst 2, 1)) ?_
  refine g_iadd hF2 (by decide +kernel : decode cL_law 1235 = .ok (.iadd, 1)) ?_
  refine g_sld hF2 hs (by decide +kernel : decode cL_law 1236 = .ok (.iaload, 1)) ?_ ?_
  · exact ⟨by first | omega | (show (0 : Int) ≤ (i : Int) + _; omega), by first | omega | (show (i : Int) + _ < (L : Int); omega)⟩
  refine g_callV hF2 lkL_219 (hM m1 hq) (by decide +kernel : decode cL_law 1237 = .ok (.invokevirtual 219, 3)) (by decide) rfl rfl rfl rfl jok51 (Nat.le_of_ble_eq_true rfl) (fun v2 m2 h2 => ?_)
  obtain ⟨e1, e2, ⟨b, rfl, hb⟩, e4⟩ := h2
  refine g_istore hF2 (by decide +kernel : decode cL_law 1240 = .ok (.istore 7, 2)) (by decide) ?_
  refine g_aload_n hF2 (by decide +kernel : decode cL_law 1242 = .ok (.aload_n 2, 1)) rfl ?_
  refine g_callV hF2 lkL_176 (c_X5_thrown X hX _) (by decide +kernel : decode cL_law 1243 = .ok (.invokevirtual 176, 3)) (by decide) rfl rfl rfl rfl jok51 (Nat.le_of_ble_eq_true rfl) (fun v3 m3 h3 => ?_)
  obtain ⟨rfl, e3⟩ := h3
  obtain rfl := e3.symm
  rw [e1]
  refine g_iload hF2 (by decide +kernel : decode cL_law 1246 = .ok (.iload 6, 2)) rfl ?_
  refine g_icmp_eq hF2 (tgt := 1253) (by decide +kernel : decode cL_law 1248 = .ok (.if_icmp .eq 5, 3)) (by decide) (by omega) (by omega) (fun c1248 => ?_) (fun c1248 => absurd rfl c1248)
  refine g_iload hF2 (by decide +kernel : decode cL_law 1253 = .ok (.iload 6, 2)) rfl ?_
  refine g_if_ne hF2 (tgt := 1277) (by decide +kernel : decode cL_law 1255 = .ok (.ifCond .ne 22, 3)) (by decide) (by omega) (fun c1255 => ?_) (fun c1255 => ?_)
  · skip
    refine g_goto hF2 (tgt := 3451) (by decide +kernel : decode cL_law 1277 = .ok (.goto 2174, 3)) (by decide) ?_
    refine g_take 6 ?_
    exact k _ e2
  · skip
    obtain ⟨b2, hb2, -, hv⟩ := e4 c1255
    cases hb2
    rcases hb with rfl | rfl
    · skip
      refine g_aload_n hF2 (by decide +kernel : decode cL_law 1258 = .ok (.aload_n 3, 1)) rfl ?_
      refine g_iconst hF2 (by decide +kernel : decode cL_law 1259 = .ok (.iconst 0, 1)) ?_
      refine g_laload hF2 (by decide +kernel : decode cL_law 1260 = .ok (.laload, 1)) ?_
      rw [hv]
      refine g_iload hF2 (by decide +kernel : decode cL_law 1261 = .ok (.iload 7, 2)) rfl ?_
      refine g_if_eq hF2 (tgt := 1270) (by decide +kernel : decode cL_law 1263 = .ok (.ifCond .eq 7, 3)) (by decide) (by decide) (fun c1263 => ?_) (fun c1263 => absurd rfl c1263)
      refine g_lconst hF2 (by decide +kernel : decode cL_law 1270 = .ok (.lconst 0, 1)) rfl ?_
      refine g_lcmpE hF2 (by decide +kernel : decode cL_law 1271 = .ok (.lcmp, 1)) rfl ?_
      refine g_if_eq hF2 (tgt := 1277) (by decide +kernel : decode cL_law 1272 = .ok (.ifCond .eq 5, 3)) (by decide) (by decide) (fun c1272 => ?_) (fun c1272 => absurd rfl c1272)
      refine g_goto hF2 (tgt := 3451) (by decide +kernel : decode cL_law 1277 = .ok (.goto 2174, 3)) (by decide) ?_
      refine g_take 6 ?_
      exact k _ e2
    · skip
      refine g_aload_n hF2 (by decide +kernel : decode cL_law 1258 = .ok (.aload_n 3, 1)) rfl ?_
      refine g_iconst hF2 (by decide +kernel : decode cL_law 1259 = .ok (.iconst 0, 1)) ?_
      refine g_laload hF2 (by decide +kernel : decode cL_law 1260 = .ok (.laload, 1)) ?_
      rw [hv]
      refine g_iload hF2 (by decide +kernel : decode cL_law 1261 = .ok (.iload 7, 2)) rfl ?_
      refine g_if_eq hF2 (tgt := 1270) (by decide +kernel : decode cL_law 1263 = .ok (.ifCond .eq 7, 3)) (by decide) (by decide) (fun c1263 => absurd c1263 (by decide)) (fun c1263 => ?_)
      refine g_lconst hF2 (by decide +kernel : decode cL_law 1266 = .ok (.lconst 1, 1)) rfl ?_
      refine g_goto hF2 (tgt := 1271) (by decide +kernel : decode cL_law 1267 = .ok (.goto 4, 3)) (by decide) ?_
      refine g_lcmpE hF2 (by decide +kernel : decode cL_law 1271 = .ok (.lcmp, 1)) rfl ?_
      refine g_if_eq hF2 (tgt := 1277) (by decide +kernel : decode cL_law 1272 = .ok (.ifCond .eq 5, 3)) (by decide) (by decide) (fun c1272 => ?_) (fun c1272 => absurd rfl c1272)
      refine g_goto hF2 (tgt := 3451) (by decide +kernel : decode cL_law 1277 = .ok (.goto 2174, 3)) (by decide) ?_
      refine g_take 6 ?_
      exact k _ e2
set_option maxHeartbeats 4000000 in
set_option maxRecDepth 100000 in
theorem lb_13 {F : jF} {X : jX} {L : Nat} {xs : Nat → Int32} (hF : jOk F X RL cL_law 10 (some .boolean) 20) (hX : jxok X) (hs : jScr F X L xs) (hroom : fk F + 1 ≤ (fR F).cells ∧ fn F + 6 ≤ (fR F).slots) (i : Nat) (hi : i + 5 ≤ L) (m : jM) (hR : Rel m) (k : ∀ m9 : jM, Rel m9 → jG (fup F (fk F + 1) (fn F + 6)) X m9 3451 (lw0 i) []) : jG F X m 1280 (lw0 i) [] := by
  have hF2 := hF.up (k := fk F + 1) (n := fn F + 6) hroom.1 hroom.2
  obtain ⟨c, Q, hc, hW, hM⟩ := st_size X hX (sx xs ((i : Int) + 1)) (sx_r _ _) m hR
  refine g_aload_n hF (by decide +kernel : decode cL_law 1280 = .ok (.aload_n 1, 1)) rfl ?_
  refine g_aload_n hF (by decide +kernel : decode cL_law 1281 = .ok (.aload_n 0, 1)) rfl ?_
  refine g_iload hF (by decide +kernel : decode cL_law 1282 = .ok (.iload 5, 2)) rfl ?_
  refine g_iconst hF (by decide +kernel : decode cL_law 1284 = .ok (.iconst 1, 1)) ?_
  refine g_iadd hF (by decide +kernel : decode cL_law 1285 = .ok (.iadd, 1)) ?_
  refine g_sld hF hs (by decide +kernel : decode cL_law 1286 = .ok (.iaload, 1)) ?_ ?_
  · exact ⟨by first | omega | (show (0 : Int) ≤ (i : Int) + _; omega), by first | omega | (show (i : Int) + _ < (L : Int); omega)⟩
  refine g_aload_n hF (by decide +kernel : decode cL_law 1287 = .ok (.aload_n 3, 1)) rfl ?_
  refine g_callL hF lkL_220 hW (by decide +kernel : decode cL_law 1288 = .ok (.invokestatic 220, 3)) (by decide) rfl rfl (Nat.le_of_ble_eq_true rfl) hroom (fun v1 m1 h1 => ?_)
  obtain ⟨rfl, hq⟩ := h1
  refine g_istore hF2 (by decide +kernel : decode cL_law 1291 = .ok (.istore 6, 2)) (by decide) ?_
  refine g_aload_n hF2 (by decide +kernel : decode cL_law 1293 = .ok (.aload_n 2, 1)) rfl ?_
  refine g_aload_n hF2 (by decide +kernel : decode cL_law 1294 = .ok (.aload_n 0, 1)) rfl ?_
  refine g_iload hF2 (by decide +kernel : decode cL_law 1295 = .ok (.iload 5, 2)) rfl ?_
  refine g_iconst hF2 (by decide +kernel : decode cL_law 1297 = .ok (.iconst 1, 1)) ?_
  refine g_iadd hF2 (by decide +kernel : decode cL_law 1298 = .ok (.iadd, 1)) ?_
  refine g_sld hF2 hs (by decide +kernel : decode cL_law 1299 = .ok (.iaload, 1)) ?_ ?_
  · exact ⟨by first | omega | (show (0 : Int) ≤ (i : Int) + _; omega), by first | omega | (show (i : Int) + _ < (L : Int); omega)⟩
  refine g_callV hF2 lkL_222 (hM m1 hq) (by decide +kernel : decode cL_law 1300 = .ok (.invokevirtual 222, 3)) (by decide) rfl rfl rfl rfl jok51 (Nat.le_of_ble_eq_true rfl) (fun v2 m2 h2 => ?_)
  obtain ⟨e1, e2, ⟨b, rfl⟩, e4⟩ := h2
  refine g_istore hF2 (by decide +kernel : decode cL_law 1303 = .ok (.istore 7, 2)) (by decide) ?_
  refine g_aload_n hF2 (by decide +kernel : decode cL_law 1305 = .ok (.aload_n 2, 1)) rfl ?_
  refine g_callV hF2 lkL_176 (c_X5_thrown X hX _) (by decide +kernel : decode cL_law 1306 = .ok (.invokevirtual 176, 3)) (by decide) rfl rfl rfl rfl jok51 (Nat.le_of_ble_eq_true rfl) (fun v3 m3 h3 => ?_)
  obtain ⟨rfl, e3⟩ := h3
  obtain rfl := e3.symm
  rw [e1]
  refine g_iload hF2 (by decide +kernel : decode cL_law 1309 = .ok (.iload 6, 2)) rfl ?_
  refine g_icmp_eq hF2 (tgt := 1316) (by decide +kernel : decode cL_law 1311 = .ok (.if_icmp .eq 5, 3)) (by decide) (by omega) (by omega) (fun c1311 => ?_) (fun c1311 => absurd rfl c1311)
  refine g_iload hF2 (by decide +kernel : decode cL_law 1316 = .ok (.iload 6, 2)) rfl ?_
  refine g_if_ne hF2 (tgt := 1333) (by decide +kernel : decode cL_law 1318 = .ok (.ifCond .ne 15, 3)) (by decide) (by omega) (fun c1318 => ?_) (fun c1318 => ?_)
  · skip
    refine g_goto hF2 (tgt := 3451) (by decide +kernel : decode cL_law 1333 = .ok (.goto 2118, 3)) (by decide) ?_
    refine g_take 6 ?_
    exact k _ e2
  · skip
    obtain ⟨b2, hb2, hv⟩ := e4 c1318
    cases hb2
    refine g_aload_n hF2 (by decide +kernel : decode cL_law 1321 = .ok (.aload_n 3, 1)) rfl ?_
    refine g_iconst hF2 (by decide +kernel : decode cL_law 1322 = .ok (.iconst 0, 1)) ?_
    refine g_laload hF2 (by decide +kernel : decode cL_law 1323 = .ok (.laload, 1)) ?_
    rw [hv]
    refine g_iload hF2 (by decide +kernel : decode cL_law 1324 = .ok (.iload 7, 2)) rfl ?_
    refine g_i2lN hF2 (by decide +kernel : decode cL_law 1326 = .ok (.i2l, 1)) ?_
    refine g_lcmpE hF2 (by decide +kernel : decode cL_law 1327 = .ok (.lcmp, 1)) rfl ?_
    refine g_if_eq hF2 (tgt := 1333) (by decide +kernel : decode cL_law 1328 = .ok (.ifCond .eq 5, 3)) (by decide) (by decide) (fun c1328 => ?_) (fun c1328 => absurd rfl c1328)
    refine g_goto hF2 (tgt := 3451) (by decide +kernel : decode cL_law 1333 = .ok (.goto 2118, 3)) (by decide) ?_
    refine g_take 6 ?_
    exact k _ e2
set_option maxHeartbeats 4000000 in
set_option maxRecDepth 100000 in
theorem lb_14 {F : jF} {X : jX} {L : Nat} {xs : Nat → Int32} (hF : jOk F X RL cL_law 10 (some .boolean) 20) (hX : jxok X) (hs : jScr F X L xs) (hroom : fk F + 1 ≤ (fR F).cells ∧ fn F + 6 ≤ (fR F).slots) (i : Nat) (hi : i + 5 ≤ L) (m : jM) (hR : Rel m) (k : ∀ m9 : jM, Rel m9 → jG (fup F (fk F + 1) (fn F + 6)) X m9 3451 (lw0 i) []) : jG F X m 1336 (lw0 i) [] := by
  have hF2 := hF.up (k := fk F + 1) (n := fn F + 6) hroom.1 hroom.2
  obtain ⟨c, Q, hc, hW, hM⟩ := st_kinds X hX (sx xs ((i : Int) + 1)) (sx_r _ _) m hR
  refine g_aload_n hF (by decide +kernel : decode cL_law 1336 = .ok (.aload_n 1, 1)) rfl ?_
  refine g_aload_n hF (by decide +kernel : decode cL_law 1337 = .ok (.aload_n 0, 1)) rfl ?_
  refine g_iload hF (by decide +kernel : decode cL_law 1338 = .ok (.iload 5, 2)) rfl ?_
  refine g_iconst hF (by decide +kernel : decode cL_law 1340 = .ok (.iconst 1, 1)) ?_
  refine g_iadd hF (by decide +kernel : decode cL_law 1341 = .ok (.iadd, 1)) ?_
  refine g_sld hF hs (by decide +kernel : decode cL_law 1342 = .ok (.iaload, 1)) ?_ ?_
  · exact ⟨by first | omega | (show (0 : Int) ≤ (i : Int) + _; omega), by first | omega | (show (i : Int) + _ < (L : Int); omega)⟩
  refine g_aload_n hF (by decide +kernel : decode cL_law 1343 = .ok (.aload_n 3, 1)) rfl ?_
  refine g_callL hF lkL_223 hW (by decide +kernel : decode cL_law 1344 = .ok (.invokestatic 223, 3)) (by decide) rfl rfl (Nat.le_of_ble_eq_true rfl) hroom (fun v1 m1 h1 => ?_)
  obtain ⟨rfl, hq⟩ := h1
  refine g_istore hF2 (by decide +kernel : decode cL_law 1347 = .ok (.istore 6, 2)) (by decide) ?_
  refine g_aload_n hF2 (by decide +kernel : decode cL_law 1349 = .ok (.aload_n 2, 1)) rfl ?_
  refine g_aload_n hF2 (by decide +kernel : decode cL_law 1350 = .ok (.aload_n 0, 1)) rfl ?_
  refine g_iload hF2 (by decide +kernel : decode cL_law 1351 = .ok (.iload 5, 2)) rfl ?_
  refine g_iconst hF2 (by decide +kernel : decode cL_law 1353 = .ok (.iconst 1, 1)) ?_
  refine g_iadd hF2 (by decide +kernel : decode cL_law 1354 = .ok (.iadd, 1)) ?_
  refine g_sld hF2 hs (by decide +kernel : decode cL_law 1355 = .ok (.iaload, 1)) ?_ ?_
  · exact ⟨by first | omega | (show (0 : Int) ≤ (i : Int) + _; omega), by first | omega | (show (i : Int) + _ < (L : Int); omega)⟩
  refine g_callV hF2 lkL_225 (hM m1 hq) (by decide +kernel : decode cL_law 1356 = .ok (.invokevirtual 225, 3)) (by decide) rfl rfl rfl rfl jok51 (Nat.le_of_ble_eq_true rfl) (fun v2 m2 h2 => ?_)
  obtain ⟨e1, e2, ⟨b, rfl⟩, e4⟩ := h2
  refine g_istore hF2 (by decide +kernel : decode cL_law 1359 = .ok (.istore 7, 2)) (by decide) ?_
  refine g_aload_n hF2 (by decide +kernel : decode cL_law 1361 = .ok (.aload_n 2, 1)) rfl ?_
  refine g_callV hF2 lkL_176 (c_X5_thrown X hX _) (by decide +kernel : decode cL_law 1362 = .ok (.invokevirtual 176, 3)) (by decide) rfl rfl rfl rfl jok51 (Nat.le_of_ble_eq_true rfl) (fun v3 m3 h3 => ?_)
  obtain ⟨rfl, e3⟩ := h3
  obtain rfl := e3.symm
  rw [e1]
  refine g_iload hF2 (by decide +kernel : decode cL_law 1365 = .ok (.iload 6, 2)) rfl ?_
  refine g_icmp_eq hF2 (tgt := 1372) (by decide +kernel : decode cL_law 1367 = .ok (.if_icmp .eq 5, 3)) (by decide) (by omega) (by omega) (fun c1367 => ?_) (fun c1367 => absurd rfl c1367)
  refine g_iload hF2 (by decide +kernel : decode cL_law 1372 = .ok (.iload 6, 2)) rfl ?_
  refine g_if_ne hF2 (tgt := 1389) (by decide +kernel : decode cL_law 1374 = .ok (.ifCond .ne 15, 3)) (by decide) (by omega) (fun c1374 => ?_) (fun c1374 => ?_)
  · skip
    refine g_goto hF2 (tgt := 3451) (by decide +kernel : decode cL_law 1389 = .ok (.goto 2062, 3)) (by decide) ?_
    refine g_take 6 ?_
    exact k _ e2
  · skip
    obtain ⟨b2, hb2, hv⟩ := e4 c1374
    cases hb2
    refine g_aload_n hF2 (by decide +kernel : decode cL_law 1377 = .ok (.aload_n 3, 1)) rfl ?_
    refine g_iconst hF2 (by decide +kernel : decode cL_law 1378 = .ok (.iconst 0, 1)) ?_
    refine g_laload hF2 (by decide +kernel : decode cL_law 1379 = .ok (.laload, 1)) ?_
    rw [hv]
    refine g_iload hF2 (by decide +kernel : decode cL_law 1380 = .ok (.iload 7, 2)) rfl ?_
    refine g_i2lN hF2 (by decide +kernel : decode cL_law 1382 = .ok (.i2l, 1)) ?_
    refine g_lcmpE hF2 (by decide +kernel : decode cL_law 1383 = .ok (.lcmp, 1)) rfl ?_
    refine g_if_eq hF2 (tgt := 1389) (by decide +kernel : decode cL_law 1384 = .ok (.ifCond .eq 5, 3)) (by decide) (by decide) (fun c1384 => ?_) (fun c1384 => absurd rfl c1384)
    refine g_goto hF2 (tgt := 3451) (by decide +kernel : decode cL_law 1389 = .ok (.goto 2062, 3)) (by decide) ?_
    refine g_take 6 ?_
    exact k _ e2
set_option maxHeartbeats 4000000 in
set_option maxRecDepth 100000 in
theorem lb_15 {F : jF} {X : jX} {L : Nat} {xs : Nat → Int32} (hF : jOk F X RL cL_law 10 (some .boolean) 20) (hX : jxok X) (hs : jScr F X L xs) (hroom : fk F + 1 ≤ (fR F).cells ∧ fn F + 6 ≤ (fR F).slots) (i : Nat) (hi : i + 5 ≤ L) (m : jM) (hR : Rel m) (k : ∀ m9 : jM, Rel m9 → jG (fup F (fk F + 1) (fn F + 6)) X m9 3451 (lw0 i) []) : jG F X m 1392 (lw0 i) [] := by
  have hF2 := hF.up (k := fk F + 1) (n := fn F + 6) hroom.1 hroom.2
  obtain ⟨c, Q, hc, hW, hM⟩ := st_keyAt X hX (sx xs ((i : Int) + 1)) (sx_r _ _) (sx xs ((i : Int) + 2)) (sx_r _ _) m hR
  refine g_aload_n hF (by decide +kernel : decode cL_law 1392 = .ok (.aload_n 1, 1)) rfl ?_
  refine g_aload_n hF (by decide +kernel : decode cL_law 1393 = .ok (.aload_n 0, 1)) rfl ?_
  refine g_iload hF (by decide +kernel : decode cL_law 1394 = .ok (.iload 5, 2)) rfl ?_
  refine g_iconst hF (by decide +kernel : decode cL_law 1396 = .ok (.iconst 1, 1)) ?_
  refine g_iadd hF (by decide +kernel : decode cL_law 1397 = .ok (.iadd, 1)) ?_
  refine g_sld hF hs (by decide +kernel : decode cL_law 1398 = .ok (.iaload, 1)) ?_ ?_
  · exact ⟨by first | omega | (show (0 : Int) ≤ (i : Int) + _; omega), by first | omega | (show (i : Int) + _ < (L : Int); omega)⟩
  refine g_aload_n hF (by decide +kernel : decode cL_law 1399 = .ok (.aload_n 0, 1)) rfl ?_
  refine g_iload hF (by decide +kernel : decode cL_law 1400 = .ok (.iload 5, 2)) rfl ?_
  refine g_iconst hF (by decide +kernel : decode cL_law 1402 = .ok (.iconst 2, 1)) ?_
  refine g_iadd hF (by decide +kernel : decode cL_law 1403 = .ok (.iadd, 1)) ?_
  refine g_sld hF hs (by decide +kernel : decode cL_law 1404 = .ok (.iaload, 1)) ?_ ?_
  · exact ⟨by first | omega | (show (0 : Int) ≤ (i : Int) + _; omega), by first | omega | (show (i : Int) + _ < (L : Int); omega)⟩
  refine g_aload_n hF (by decide +kernel : decode cL_law 1405 = .ok (.aload_n 3, 1)) rfl ?_
  refine g_callL hF lkL_226 hW (by decide +kernel : decode cL_law 1406 = .ok (.invokestatic 226, 3)) (by decide) rfl rfl (Nat.le_of_ble_eq_true rfl) hroom (fun v1 m1 h1 => ?_)
  obtain ⟨rfl, hq⟩ := h1
  refine g_istore hF2 (by decide +kernel : decode cL_law 1409 = .ok (.istore 6, 2)) (by decide) ?_
  refine g_aload_n hF2 (by decide +kernel : decode cL_law 1411 = .ok (.aload_n 2, 1)) rfl ?_
  refine g_aload_n hF2 (by decide +kernel : decode cL_law 1412 = .ok (.aload_n 0, 1)) rfl ?_
  refine g_iload hF2 (by decide +kernel : decode cL_law 1413 = .ok (.iload 5, 2)) rfl ?_
  refine g_iconst hF2 (by decide +kernel : decode cL_law 1415 = .ok (.iconst 1, 1)) ?_
  refine g_iadd hF2 (by decide +kernel : decode cL_law 1416 = .ok (.iadd, 1)) ?_
  refine g_sld hF2 hs (by decide +kernel : decode cL_law 1417 = .ok (.iaload, 1)) ?_ ?_
  · exact ⟨by first | omega | (show (0 : Int) ≤ (i : Int) + _; omega), by first | omega | (show (i : Int) + _ < (L : Int); omega)⟩
  refine g_aload_n hF2 (by decide +kernel : decode cL_law 1418 = .ok (.aload_n 0, 1)) rfl ?_
  refine g_iload hF2 (by decide +kernel : decode cL_law 1419 = .ok (.iload 5, 2)) rfl ?_
  refine g_iconst hF2 (by decide +kernel : decode cL_law 1421 = .ok (.iconst 2, 1)) ?_
  refine g_iadd hF2 (by decide +kernel : decode cL_law 1422 = .ok (.iadd, 1)) ?_
  refine g_sld hF2 hs (by decide +kernel : decode cL_law 1423 = .ok (.iaload, 1)) ?_ ?_
  · exact ⟨by first | omega | (show (0 : Int) ≤ (i : Int) + _; omega), by first | omega | (show (i : Int) + _ < (L : Int); omega)⟩
  refine g_callV hF2 lkL_228 (hM m1 hq) (by decide +kernel : decode cL_law 1424 = .ok (.invokevirtual 228, 3)) (by decide) rfl rfl rfl rfl jok51 (Nat.le_of_ble_eq_true rfl) (fun v2 m2 h2 => ?_)
  obtain ⟨e1, e2, ⟨b, rfl⟩, e4⟩ := h2
  refine g_istore hF2 (by decide +kernel : decode cL_law 1427 = .ok (.istore 7, 2)) (by decide) ?_
  refine g_aload_n hF2 (by decide +kernel : decode cL_law 1429 = .ok (.aload_n 2, 1)) rfl ?_
  refine g_callV hF2 lkL_176 (c_X5_thrown X hX _) (by decide +kernel : decode cL_law 1430 = .ok (.invokevirtual 176, 3)) (by decide) rfl rfl rfl rfl jok51 (Nat.le_of_ble_eq_true rfl) (fun v3 m3 h3 => ?_)
  obtain ⟨rfl, e3⟩ := h3
  obtain rfl := e3.symm
  rw [e1]
  refine g_iload hF2 (by decide +kernel : decode cL_law 1433 = .ok (.iload 6, 2)) rfl ?_
  refine g_icmp_eq hF2 (tgt := 1440) (by decide +kernel : decode cL_law 1435 = .ok (.if_icmp .eq 5, 3)) (by decide) (by omega) (by omega) (fun c1435 => ?_) (fun c1435 => absurd rfl c1435)
  refine g_iload hF2 (by decide +kernel : decode cL_law 1440 = .ok (.iload 6, 2)) rfl ?_
  refine g_if_ne hF2 (tgt := 1457) (by decide +kernel : decode cL_law 1442 = .ok (.ifCond .ne 15, 3)) (by decide) (by omega) (fun c1442 => ?_) (fun c1442 => ?_)
  · skip
    refine g_goto hF2 (tgt := 3451) (by decide +kernel : decode cL_law 1457 = .ok (.goto 1994, 3)) (by decide) ?_
    refine g_take 6 ?_
    exact k _ e2
  · skip
    obtain ⟨b2, hb2, hv⟩ := e4 c1442
    cases hb2
    refine g_aload_n hF2 (by decide +kernel : decode cL_law 1445 = .ok (.aload_n 3, 1)) rfl ?_
    refine g_iconst hF2 (by decide +kernel : decode cL_law 1446 = .ok (.iconst 0, 1)) ?_
    refine g_laload hF2 (by decide +kernel : decode cL_law 1447 = .ok (.laload, 1)) ?_
    rw [hv]
    refine g_iload hF2 (by decide +kernel : decode cL_law 1448 = .ok (.iload 7, 2)) rfl ?_
    refine g_i2lN hF2 (by decide +kernel : decode cL_law 1450 = .ok (.i2l, 1)) ?_
    refine g_lcmpE hF2 (by decide +kernel : decode cL_law 1451 = .ok (.lcmp, 1)) rfl ?_
    refine g_if_eq hF2 (tgt := 1457) (by decide +kernel : decode cL_law 1452 = .ok (.ifCond .eq 5, 3)) (by decide) (by decide) (fun c1452 => ?_) (fun c1452 => absurd rfl c1452)
    refine g_goto hF2 (tgt := 3451) (by decide +kernel : decode cL_law 1457 = .ok (.goto 1994, 3)) (by decide) ?_
    refine g_take 6 ?_
    exact k _ e2

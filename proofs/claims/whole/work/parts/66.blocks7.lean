/-! BLOCKS of the law -/
set_option maxHeartbeats 4000000 in
set_option maxRecDepth 100000 in
theorem lb_22 {F : jF} {X : jX} {L : Nat} {xs : Nat → Int32} (hF : jOk F X RL cL_law 10 (some .boolean) 20) (hX : jxok X) (hs : jScr F X L xs) (hroom : fk F + 1 ≤ (fR F).cells ∧ fn F + 6 ≤ (fR F).slots) (i : Nat) (hi : i + 5 ≤ L) (m : jM) (hR : Rel m) (k : ∀ m9 : jM, Rel m9 → jG (fup F (fk F + 1) (fn F + 6)) X m9 3451 (lw0 i) []) : jG F X m 1865 (lw0 i) [] := by
  have hF2 := hF.up (k := fk F + 1) (n := fn F + 6) hroom.1 hroom.2
  obtain ⟨c, Q, hc, hW, hM⟩ := st_dropOdd X hX (sx xs ((i : Int) + 1)) (sx_r _ _) m hR
  refine g_aload_n hF (by decide +kernel : decode cL_law 1865 = .ok (.aload_n 1, 1)) rfl ?_
  refine g_aload_n hF (by decide +kernel : decode cL_law 1866 = .ok (.aload_n 0, 1)) rfl ?_
  refine g_iload hF (by decide +kernel : decode cL_law 1867 = .ok (.iload 5, 2)) rfl ?_
  refine g_iconst hF (by decide +kernel : decode cL_law 1869 = .ok (.iconst 1, 1)) ?_
  refine g_iadd hF (by decide +kernel : decode cL_law 1870 = .ok (.iadd, 1)) ?_
  refine g_sld hF hs (by decide +kernel : decode cL_law 1871 = .ok (.iaload, 1)) ?_ ?_
  · exact ⟨by first | omega | (show (0 : Int) ≤ (i : Int) + _; omega), by first | omega | (show (i : Int) + _ < (L : Int); omega)⟩
  refine g_aload_n hF (by decide +kernel : decode cL_law 1872 = .ok (.aload_n 3, 1)) rfl ?_
  refine g_callL hF lkL_247 hW (by decide +kernel : decode cL_law 1873 = .ok (.invokestatic 247, 3)) (by decide) rfl rfl (Nat.le_of_ble_eq_true rfl) hroom (fun v1 m1 h1 => ?_)
  obtain ⟨rfl, hq⟩ := h1
  refine g_istore hF2 (by decide +kernel : decode cL_law 1876 = .ok (.istore 6, 2)) (by decide) ?_
  refine g_aload_n hF2 (by decide +kernel : decode cL_law 1878 = .ok (.aload_n 2, 1)) rfl ?_
  refine g_aload_n hF2 (by decide +kernel : decode cL_law 1879 = .ok (.aload_n 0, 1)) rfl ?_
  refine g_iload hF2 (by decide +kernel : decode cL_law 1880 = .ok (.iload 5, 2)) rfl ?_
  refine g_iconst hF2 (by decide +kernel : decode cL_law 1882 = .ok (.iconst 1, 1)) ?_
  refine g_iadd hF2 (by decide +kernel : decode cL_law 1883 = .ok (.iadd, 1)) ?_
  refine g_sld hF2 hs (by decide +kernel : decode cL_law 1884 = .ok (.iaload, 1)) ?_ ?_
  · exact ⟨by first | omega | (show (0 : Int) ≤ (i : Int) + _; omega), by first | omega | (show (i : Int) + _ < (L : Int); omega)⟩
  refine g_callV hF2 lkL_249 (hM m1 hq) (by decide +kernel : decode cL_law 1885 = .ok (.invokevirtual 249, 3)) (by decide) rfl rfl rfl rfl jok51 (Nat.le_of_ble_eq_true rfl) (fun v2 m2 h2 => ?_)
  obtain ⟨e1, e2, ⟨b, rfl⟩, e4⟩ := h2
  refine g_istore hF2 (by decide +kernel : decode cL_law 1888 = .ok (.istore 7, 2)) (by decide) ?_
  refine g_aload_n hF2 (by decide +kernel : decode cL_law 1890 = .ok (.aload_n 2, 1)) rfl ?_
  refine g_callV hF2 lkL_176 (c_X5_thrown X hX _) (by decide +kernel : decode cL_law 1891 = .ok (.invokevirtual 176, 3)) (by decide) rfl rfl rfl rfl jok51 (Nat.le_of_ble_eq_true rfl) (fun v3 m3 h3 => ?_)
  obtain ⟨rfl, e3⟩ := h3
  obtain rfl := e3.symm
  rw [e1]
  refine g_iload hF2 (by decide +kernel : decode cL_law 1894 = .ok (.iload 6, 2)) rfl ?_
  refine g_icmp_eq hF2 (tgt := 1901) (by decide +kernel : decode cL_law 1896 = .ok (.if_icmp .eq 5, 3)) (by decide) (by omega) (by omega) (fun c1896 => ?_) (fun c1896 => absurd rfl c1896)
  refine g_iload hF2 (by decide +kernel : decode cL_law 1901 = .ok (.iload 6, 2)) rfl ?_
  refine g_if_ne hF2 (tgt := 1918) (by decide +kernel : decode cL_law 1903 = .ok (.ifCond .ne 15, 3)) (by decide) (by omega) (fun c1903 => ?_) (fun c1903 => ?_)
  · skip
    refine g_goto hF2 (tgt := 3451) (by decide +kernel : decode cL_law 1918 = .ok (.goto 1533, 3)) (by decide) ?_
    refine g_take 6 ?_
    exact k _ e2
  · skip
    obtain ⟨b2, hb2, hv⟩ := e4 c1903
    cases hb2
    refine g_aload_n hF2 (by decide +kernel : decode cL_law 1906 = .ok (.aload_n 3, 1)) rfl ?_
    refine g_iconst hF2 (by decide +kernel : decode cL_law 1907 = .ok (.iconst 0, 1)) ?_
    refine g_laload hF2 (by decide +kernel : decode cL_law 1908 = .ok (.laload, 1)) ?_
    rw [hv]
    refine g_iload hF2 (by decide +kernel : decode cL_law 1909 = .ok (.iload 7, 2)) rfl ?_
    refine g_i2lN hF2 (by decide +kernel : decode cL_law 1911 = .ok (.i2l, 1)) ?_
    refine g_lcmpE hF2 (by decide +kernel : decode cL_law 1912 = .ok (.lcmp, 1)) rfl ?_
    refine g_if_eq hF2 (tgt := 1918) (by decide +kernel : decode cL_law 1913 = .ok (.ifCond .eq 5, 3)) (by decide) (by decide) (fun c1913 => ?_) (fun c1913 => absurd rfl c1913)
    refine g_goto hF2 (tgt := 3451) (by decide +kernel : decode cL_law 1918 = .ok (.goto 1533, 3)) (by decide) ?_
    refine g_take 6 ?_
    exact k _ e2
set_option maxHeartbeats 4000000 in
set_option maxRecDepth 100000 in
theorem lb_23 {F : jF} {X : jX} {L : Nat} {xs : Nat → Int32} (hF : jOk F X RL cL_law 10 (some .boolean) 20) (hX : jxok X) (hs : jScr F X L xs) (hroom : fk F + 1 ≤ (fR F).cells ∧ fn F + 6 ≤ (fR F).slots) (i : Nat) (hi : i + 5 ≤ L) (m : jM) (hR : Rel m) (k : ∀ m9 : jM, Rel m9 → jG (fup F (fk F + 1) (fn F + 6)) X m9 3451 (lw0 i) []) : jG F X m 1921 (lw0 i) [] := by
  have hF2 := hF.up (k := fk F + 1) (n := fn F + 6) hroom.1 hroom.2
  obtain ⟨c, Q, hc, hW, hM⟩ := st_shift X hX (sx xs ((i : Int) + 1)) (sx_r _ _) (sx xs ((i : Int) + 2)) (sx_r _ _) m hR
  refine g_aload_n hF (by decide +kernel : decode cL_law 1921 = .ok (.aload_n 1, 1)) rfl ?_
  refine g_aload_n hF (by decide +kernel : decode cL_law 1922 = .ok (.aload_n 0, 1)) rfl ?_
  refine g_iload hF (by decide +kernel : decode cL_law 1923 = .ok (.iload 5, 2)) rfl ?_
  refine g_iconst hF (by decide +kernel : decode cL_law 1925 = .ok (.iconst 1, 1)) ?_
  refine g_iadd hF (by decide +kernel : decode cL_law 1926 = .ok (.iadd, 1)) ?_
  refine g_sld hF hs (by decide +kernel : decode cL_law 1927 = .ok (.iaload, 1)) ?_ ?_
  · exact ⟨by first | omega | (show (0 : Int) ≤ (i : Int) + _; omega), by first | omega | (show (i : Int) + _ < (L : Int); omega)⟩
  refine g_aload_n hF (by decide +kernel : decode cL_law 1928 = .ok (.aload_n 0, 1)) rfl ?_
  refine g_iload hF (by decide +kernel : decode cL_law 1929 = .ok (.iload 5, 2)) rfl ?_
  refine g_iconst hF (by decide +kernel : decode cL_law 1931 = .ok (.iconst 2, 1)) ?_
  refine g_iadd hF (by decide +kernel : decode cL_law 1932 = .ok (.iadd, 1)) ?_
  refine g_sld hF hs (by decide +kernel : decode cL_law 1933 = .ok (.iaload, 1)) ?_ ?_
  · exact ⟨by first | omega | (show (0 : Int) ≤ (i : Int) + _; omega), by first | omega | (show (i : Int) + _ < (L : Int); omega)⟩
  refine g_aload_n hF (by decide +kernel : decode cL_law 1934 = .ok (.aload_n 3, 1)) rfl ?_
  refine g_callL hF lkL_250 hW (by decide +kernel : decode cL_law 1935 = .ok (.invokestatic 250, 3)) (by decide) rfl rfl (Nat.le_of_ble_eq_true rfl) hroom (fun v1 m1 h1 => ?_)
  obtain ⟨rfl, hq⟩ := h1
  refine g_istore hF2 (by decide +kernel : decode cL_law 1938 = .ok (.istore 6, 2)) (by decide) ?_
  refine g_aload_n hF2 (by decide +kernel : decode cL_law 1940 = .ok (.aload_n 2, 1)) rfl ?_
  refine g_aload_n hF2 (by decide +kernel : decode cL_law 1941 = .ok (.aload_n 0, 1)) rfl ?_
  refine g_iload hF2 (by decide +kernel : decode cL_law 1942 = .ok (.iload 5, 2)) rfl ?_
  refine g_iconst hF2 (by decide +kernel : decode cL_law 1944 = .ok (.iconst 1, 1)) ?_
  refine g_iadd hF2 (by decide +kernel : decode cL_law 1945 = .ok (.iadd, 1)) ?_
  refine g_sld hF2 hs (by decide +kernel : decode cL_law 1946 = .ok (.iaload, 1)) ?_ ?_
  · exact ⟨by first | omega | (show (0 : Int) ≤ (i : Int) + _; omega), by first | omega | (show (i : Int) + _ < (L : Int); omega)⟩
  refine g_aload_n hF2 (by decide +kernel : decode cL_law 1947 = .ok (.aload_n 0, 1)) rfl ?_
  refine g_iload hF2 (by decide +kernel : decode cL_law 1948 = .ok (.iload 5, 2)) rfl ?_
  refine g_iconst hF2 (by decide +kernel : decode cL_law 1950 = .ok (.iconst 2, 1)) ?_
  refine g_iadd hF2 (by decide +kernel : decode cL_law 1951 = .ok (.iadd, 1)) ?_
  refine g_sld hF2 hs (by decide +kernel : decode cL_law 1952 = .ok (.iaload, 1)) ?_ ?_
  · exact ⟨by first | omega | (show (0 : Int) ≤ (i : Int) + _; omega), by first | omega | (show (i : Int) + _ < (L : Int); omega)⟩
  refine g_callV hF2 lkL_252 (hM m1 hq) (by decide +kernel : decode cL_law 1953 = .ok (.invokevirtual 252, 3)) (by decide) rfl rfl rfl rfl jok51 (Nat.le_of_ble_eq_true rfl) (fun v2 m2 h2 => ?_)
  obtain ⟨e1, e2, ⟨b, rfl⟩, e4⟩ := h2
  refine g_istore hF2 (by decide +kernel : decode cL_law 1956 = .ok (.istore 7, 2)) (by decide) ?_
  refine g_aload_n hF2 (by decide +kernel : decode cL_law 1958 = .ok (.aload_n 2, 1)) rfl ?_
  refine g_callV hF2 lkL_176 (c_X5_thrown X hX _) (by decide +kernel : decode cL_law 1959 = .ok (.invokevirtual 176, 3)) (by decide) rfl rfl rfl rfl jok51 (Nat.le_of_ble_eq_true rfl) (fun v3 m3 h3 => ?_)
  obtain ⟨rfl, e3⟩ := h3
  obtain rfl := e3.symm
  rw [e1]
  refine g_iload hF2 (by decide +kernel : decode cL_law 1962 = .ok (.iload 6, 2)) rfl ?_
  refine g_icmp_eq hF2 (tgt := 1969) (by decide +kernel : decode cL_law 1964 = .ok (.if_icmp .eq 5, 3)) (by decide) (by omega) (by omega) (fun c1964 => ?_) (fun c1964 => absurd rfl c1964)
  refine g_iload hF2 (by decide +kernel : decode cL_law 1969 = .ok (.iload 6, 2)) rfl ?_
  refine g_if_ne hF2 (tgt := 1986) (by decide +kernel : decode cL_law 1971 = .ok (.ifCond .ne 15, 3)) (by decide) (by omega) (fun c1971 => ?_) (fun c1971 => ?_)
  · skip
    refine g_goto hF2 (tgt := 3451) (by decide +kernel : decode cL_law 1986 = .ok (.goto 1465, 3)) (by decide) ?_
    refine g_take 6 ?_
    exact k _ e2
  · skip
    obtain ⟨b2, hb2, hv⟩ := e4 c1971
    cases hb2
    refine g_aload_n hF2 (by decide +kernel : decode cL_law 1974 = .ok (.aload_n 3, 1)) rfl ?_
    refine g_iconst hF2 (by decide +kernel : decode cL_law 1975 = .ok (.iconst 0, 1)) ?_
    refine g_laload hF2 (by decide +kernel : decode cL_law 1976 = .ok (.laload, 1)) ?_
    rw [hv]
    refine g_iload hF2 (by decide +kernel : decode cL_law 1977 = .ok (.iload 7, 2)) rfl ?_
    refine g_i2lN hF2 (by decide +kernel : decode cL_law 1979 = .ok (.i2l, 1)) ?_
    refine g_lcmpE hF2 (by decide +kernel : decode cL_law 1980 = .ok (.lcmp, 1)) rfl ?_
    refine g_if_eq hF2 (tgt := 1986) (by decide +kernel : decode cL_law 1981 = .ok (.ifCond .eq 5, 3)) (by decide) (by decide) (fun c1981 => ?_) (fun c1981 => absurd rfl c1981)
    refine g_goto hF2 (tgt := 3451) (by decide +kernel : decode cL_law 1986 = .ok (.goto 1465, 3)) (by decide) ?_
    refine g_take 6 ?_
    exact k _ e2
set_option maxHeartbeats 4000000 in
set_option maxRecDepth 100000 in
theorem lb_24 {F : jF} {X : jX} {L : Nat} {xs : Nat → Int32} (hF : jOk F X RL cL_law 10 (some .boolean) 20) (hX : jxok X) (hs : jScr F X L xs) (hroom : fk F + 1 ≤ (fR F).cells ∧ fn F + 6 ≤ (fR F).slots) (i : Nat) (hi : i + 5 ≤ L) (m : jM) (hR : Rel m) (k : ∀ m9 : jM, Rel m9 → jG (fup F (fk F + 1) (fn F + 6)) X m9 3451 (lw0 i) []) : jG F X m 1989 (lw0 i) [] := by
  have hF2 := hF.up (k := fk F + 1) (n := fn F + 6) hroom.1 hroom.2
  obtain ⟨c, Q, hc, hW, hM⟩ := st_copy X hX (sx xs ((i : Int) + 1)) (sx_r _ _) (sx xs ((i : Int) + 2)) (sx_r _ _) m hR
  refine g_aload_n hF (by decide +kernel : decode cL_law 1989 = .ok (.aload_n 1, 1)) rfl ?_
  refine g_aload_n hF (by decide +kernel : decode cL_law 1990 = .ok (.aload_n 0, 1)) rfl ?_
  refine g_iload hF (by decide +kernel : decode cL_law 1991 = .ok (.iload 5, 2)) rfl ?_
  refine g_iconst hF (by decide +kernel : decode cL_law 1993 = .ok (.iconst 1, 1)) ?_
  refine g_iadd hF (by decide +kernel : decode cL_law 1994 = .ok (.iadd, 1)) ?_
  refine g_sld hF hs (by decide +kernel : decode cL_law 1995 = .ok (.iaload, 1)) ?_ ?_
  · exact ⟨by first | omega | (show (0 : Int) ≤ (i : Int) + _; omega), by first | omega | (show (i : Int) + _ < (L : Int); omega)⟩
  refine g_aload_n hF (by decide +kernel : decode cL_law 1996 = .ok (.aload_n 0, 1)) rfl ?_
  refine g_iload hF (by decide +kernel : decode cL_law 1997 = .ok (.iload 5, 2)) rfl ?_
  refine g_iconst hF (by decide +kernel : decode cL_law 1999 = .ok (.iconst 2, 1)) ?_
  refine g_iadd hF (by decide +kernel : decode cL_law 2000 = .ok (.iadd, 1)) ?_
  refine g_sld hF hs (by decide +kernel : decode cL_law 2001 = .ok (.iaload, 1)) ?_ ?_
  · exact ⟨by first | omega | (show (0 : Int) ≤ (i : Int) + _; omega), by first | omega | (show (i : Int) + _ < (L : Int); omega)⟩
  refine g_aload_n hF (by decide +kernel : decode cL_law 2002 = .ok (.aload_n 3, 1)) rfl ?_
  refine g_callL hF lkL_253 hW (by decide +kernel : decode cL_law 2003 = .ok (.invokestatic 253, 3)) (by decide) rfl rfl (Nat.le_of_ble_eq_true rfl) hroom (fun v1 m1 h1 => ?_)
  obtain ⟨rfl, hq⟩ := h1
  refine g_istore hF2 (by decide +kernel : decode cL_law 2006 = .ok (.istore 6, 2)) (by decide) ?_
  refine g_aload_n hF2 (by decide +kernel : decode cL_law 2008 = .ok (.aload_n 2, 1)) rfl ?_
  refine g_aload_n hF2 (by decide +kernel : decode cL_law 2009 = .ok (.aload_n 0, 1)) rfl ?_
  refine g_iload hF2 (by decide +kernel : decode cL_law 2010 = .ok (.iload 5, 2)) rfl ?_
  refine g_iconst hF2 (by decide +kernel : decode cL_law 2012 = .ok (.iconst 1, 1)) ?_
  refine g_iadd hF2 (by decide +kernel : decode cL_law 2013 = .ok (.iadd, 1)) ?_
  refine g_sld hF2 hs (by decide +kernel : decode cL_law 2014 = .ok (.iaload, 1)) ?_ ?_
  · exact ⟨by first | omega | (show (0 : Int) ≤ (i : Int) + _; omega), by first | omega | (show (i : Int) + _ < (L : Int); omega)⟩
  refine g_aload_n hF2 (by decide +kernel : decode cL_law 2015 = .ok (.aload_n 0, 1)) rfl ?_
  refine g_iload hF2 (by decide +kernel : decode cL_law 2016 = .ok (.iload 5, 2)) rfl ?_
  refine g_iconst hF2 (by decide +kernel : decode cL_law 2018 = .ok (.iconst 2, 1)) ?_
  refine g_iadd hF2 (by decide +kernel : decode cL_law 2019 = .ok (.iadd, 1)) ?_
  refine g_sld hF2 hs (by decide +kernel : decode cL_law 2020 = .ok (.iaload, 1)) ?_ ?_
  · exact ⟨by first | omega | (show (0 : Int) ≤ (i : Int) + _; omega), by first | omega | (show (i : Int) + _ < (L : Int); omega)⟩
  refine g_callV hF2 lkL_255 (hM m1 hq) (by decide +kernel : decode cL_law 2021 = .ok (.invokevirtual 255, 3)) (by decide) rfl rfl rfl rfl jok51 (Nat.le_of_ble_eq_true rfl) (fun v2 m2 h2 => ?_)
  obtain ⟨e1, e2, ⟨b, rfl⟩, e4⟩ := h2
  refine g_istore hF2 (by decide +kernel : decode cL_law 2024 = .ok (.istore 7, 2)) (by decide) ?_
  refine g_aload_n hF2 (by decide +kernel : decode cL_law 2026 = .ok (.aload_n 2, 1)) rfl ?_
  refine g_callV hF2 lkL_176 (c_X5_thrown X hX _) (by decide +kernel : decode cL_law 2027 = .ok (.invokevirtual 176, 3)) (by decide) rfl rfl rfl rfl jok51 (Nat.le_of_ble_eq_true rfl) (fun v3 m3 h3 => ?_)
  obtain ⟨rfl, e3⟩ := h3
  obtain rfl := e3.symm
  rw [e1]
  refine g_iload hF2 (by decide +kernel : decode cL_law 2030 = .ok (.iload 6, 2)) rfl ?_
  refine g_icmp_eq hF2 (tgt := 2037) (by decide +kernel : decode cL_law 2032 = .ok (.if_icmp .eq 5, 3)) (by decide) (by omega) (by omega) (fun c2032 => ?_) (fun c2032 => absurd rfl c2032)
  refine g_iload hF2 (by decide +kernel : decode cL_law 2037 = .ok (.iload 6, 2)) rfl ?_
  refine g_if_ne hF2 (tgt := 2054) (by decide +kernel : decode cL_law 2039 = .ok (.ifCond .ne 15, 3)) (by decide) (by omega) (fun c2039 => ?_) (fun c2039 => ?_)
  · skip
    refine g_goto hF2 (tgt := 3451) (by decide +kernel : decode cL_law 2054 = .ok (.goto 1397, 3)) (by decide) ?_
    refine g_take 6 ?_
    exact k _ e2
  · skip
    obtain ⟨b2, hb2, hv⟩ := e4 c2039
    cases hb2
    refine g_aload_n hF2 (by decide +kernel : decode cL_law 2042 = .ok (.aload_n 3, 1)) rfl ?_
    refine g_iconst hF2 (by decide +kernel : decode cL_law 2043 = .ok (.iconst 0, 1)) ?_
    refine g_laload hF2 (by decide +kernel : decode cL_law 2044 = .ok (.laload, 1)) ?_
    rw [hv]
    refine g_iload hF2 (by decide +kernel : decode cL_law 2045 = .ok (.iload 7, 2)) rfl ?_
    refine g_i2lN hF2 (by decide +kernel : decode cL_law 2047 = .ok (.i2l, 1)) ?_
    refine g_lcmpE hF2 (by decide +kernel : decode cL_law 2048 = .ok (.lcmp, 1)) rfl ?_
    refine g_if_eq hF2 (tgt := 2054) (by decide +kernel : decode cL_law 2049 = .ok (.ifCond .eq 5, 3)) (by decide) (by decide) (fun c2049 => ?_) (fun c2049 => absurd rfl c2049)
    refine g_goto hF2 (tgt := 3451) (by decide +kernel : decode cL_law 2054 = .ok (.goto 1397, 3)) (by decide) ?_
    refine g_take 6 ?_
    exact k _ e2
set_option maxHeartbeats 4000000 in
set_option maxRecDepth 100000 in
theorem lb_25 {F : jF} {X : jX} {L : Nat} {xs : Nat → Int32} (hF : jOk F X RL cL_law 10 (some .boolean) 20) (hX : jxok X) (hs : jScr F X L xs) (hroom : fk F + 1 ≤ (fR F).cells ∧ fn F + 6 ≤ (fR F).slots) (i : Nat) (hi : i + 5 ≤ L) (m : jM) (hR : Rel m) (k : ∀ m9 : jM, Rel m9 → jG (fup F (fk F + 1) (fn F + 6)) X m9 3451 (lw0 i) []) : jG F X m 2057 (lw0 i) [] := by
  have hF2 := hF.up (k := fk F + 1) (n := fn F + 6) hroom.1 hroom.2
  obtain ⟨c, Q, hc, hW, hM⟩ := st_join X hX (sx xs ((i : Int) + 1)) (sx_r _ _) (sx xs ((i : Int) + 2)) (sx_r _ _) (sx xs ((i : Int) + 3)) (sx_r _ _) m hR
  refine g_aload_n hF (by decide +kernel : decode cL_law 2057 = .ok (.aload_n 1, 1)) rfl ?_
  refine g_aload_n hF (by decide +kernel : decode cL_law 2058 = .ok (.aload_n 0, 1)) rfl ?_
  refine g_iload hF (by decide +kernel : decode cL_law 2059 = .ok (.iload 5, 2)) rfl ?_
  refine g_iconst hF (by decide +kernel : decode cL_law 2061 = .ok (.iconst 1, 1)) ?_
  refine g_iadd hF (by decide +kernel : decode cL_law 2062 = .ok (.iadd, 1)) ?_
  refine g_sld hF hs (by decide +kernel : decode cL_law 2063 = .ok (.iaload, 1)) ?_ ?_
  · exact ⟨by first | omega | (show (0 : Int) ≤ (i : Int) + _; omega), by first | omega | (show (i : Int) + _ < (L : Int); omega)⟩
  refine g_aload_n hF (by decide +kernel : decode cL_law 2064 = .ok (.aload_n 0, 1)) rfl ?_
  refine g_iload hF (by decide +kernel : decode cL_law 2065 = .ok (.iload 5, 2)) rfl ?_
  refine g_iconst hF (by decide +kernel : decode cL_law 2067 = .ok (.iconst 2, 1)) ?_
  refine g_iadd hF (by decide +kernel : decode cL_law 2068 = .ok (.iadd, 1)) ?_
  refine g_sld hF hs (by decide +kernel : decode cL_law 2069 = .ok (.iaload, 1)) ?_ ?_
  · exact ⟨by first | omega | (show (0 : Int) ≤ (i : Int) + _; omega), by first | omega | (show (i : Int) + _ < (L : Int); omega)⟩
  refine g_aload_n hF (by decide +kernel : decode cL_law 2070 = .ok (.aload_n 0, 1)) rfl ?_
  refine g_iload hF (by decide +kernel : decode cL_law 2071 = .ok (.iload 5, 2)) rfl ?_
  refine g_iconst hF (by decide +kernel : decode cL_law 2073 = .ok (.iconst 3, 1)) ?_
  refine g_iadd hF (by decide +kernel : decode cL_law 2074 = .ok (.iadd, 1)) ?_
  refine g_sld hF hs (by decide +kernel : decode cL_law 2075 = .ok (.iaload, 1)) ?_ ?_
  · exact ⟨by first | omega | (show (0 : Int) ≤ (i : Int) + _; omega), by first | omega | (show (i : Int) + _ < (L : Int); omega)⟩
  refine g_aload_n hF (by decide +kernel : decode cL_law 2076 = .ok (.aload_n 3, 1)) rfl ?_
  refine g_callL hF lkL_256 hW (by decide +kernel : decode cL_law 2077 = .ok (.invokestatic 256, 3)) (by decide) rfl rfl (Nat.le_of_ble_eq_true rfl) hroom (fun v1 m1 h1 => ?_)
  obtain ⟨rfl, hq⟩ := h1
  refine g_istore hF2 (by decide +kernel : decode cL_law 2080 = .ok (.istore 6, 2)) (by decide) ?_
  refine g_aload_n hF2 (by decide +kernel : decode cL_law 2082 = .ok (.aload_n 2, 1)) rfl ?_
  refine g_aload_n hF2 (by decide +kernel : decode cL_law 2083 = .ok (.aload_n 0, 1)) rfl ?_
  refine g_iload hF2 (by decide +kernel : decode cL_law 2084 = .ok (.iload 5, 2)) rfl ?_
  refine g_iconst hF2 (by decide +kernel : decode cL_law 2086 = .ok (.iconst 1, 1)) ?_
  refine g_iadd hF2 (by decide +kernel : decode cL_law 2087 = .ok (.iadd, 1)) ?_
  refine g_sld hF2 hs (by decide +kernel : decode cL_law 2088 = .ok (.iaload, 1)) ?_ ?_
  · exact ⟨by first | omega | (show (0 : Int) ≤ (i : Int) + _; omega), by first | omega | (show (i : Int) + _ < (L : Int); omega)⟩
  refine g_aload_n hF2 (by decide +kernel : decode cL_law 2089 = .ok (.aload_n 0, 1)) rfl ?_
  refine g_iload hF2 (by decide +kernel : decode cL_law 2090 = .ok (.iload 5, 2)) rfl ?_
  refine g_iconst hF2 (by decide +kernel : decode cL_law 2092 = .ok (.iconst 2, 1)) ?_
  refine g_iadd hF2 (by decide +kernel : decode cL_law 2093 = .ok (.iadd, 1)) ?_
  refine g_sld hF2 hs (by decide +kernel : decode cL_law 2094 = .ok (.iaload, 1)) ?_ ?_
  · exact ⟨by first | omega | (show (0 : Int) ≤ (i : Int) + _; omega), by first | omega | (show (i : Int) + _ < (L : Int); omega)⟩
  refine g_aload_n hF2 (by decide +kernel : decode cL_law 2095 = .ok (.aload_n 0, 1)) rfl ?_
  refine g_iload hF2 (by decide +kernel : decode cL_law 2096 = .ok (.iload 5, 2)) rfl ?_
  refine g_iconst hF2 (by decide +kernel : decode cL_law 2098 = .ok (.iconst 3, 1)) ?_
  refine g_iadd hF2 (by decide +kernel : decode cL_law 2099 = .ok (.iadd, 1)) ?_
  refine g_sld hF2 hs (by decide +kernel : decode cL_law 2100 = .ok (.iaload, 1)) ?_ ?_
  · exact ⟨by first | omega | (show (0 : Int) ≤ (i : Int) + _; omega), by first | omega | (show (i : Int) + _ < (L : Int); omega)⟩
  refine g_callV hF2 lkL_258 (hM m1 hq) (by decide +kernel : decode cL_law 2101 = .ok (.invokevirtual 258, 3)) (by decide) rfl rfl rfl rfl jok51 (Nat.le_of_ble_eq_true rfl) (fun v2 m2 h2 => ?_)
  obtain ⟨e1, e2, ⟨b, rfl⟩, e4⟩ := h2
  refine g_istore hF2 (by decide +kernel : decode cL_law 2104 = .ok (.istore 7, 2)) (by decide) ?_
  refine g_aload_n hF2 (by decide +kernel : decode cL_law 2106 = .ok (.aload_n 2, 1)) rfl ?_
  refine g_callV hF2 lkL_176 (c_X5_thrown X hX _) (by decide +kernel : decode cL_law 2107 = .ok (.invokevirtual 176, 3)) (by decide) rfl rfl rfl rfl jok51 (Nat.le_of_ble_eq_true rfl) (fun v3 m3 h3 => ?_)
  obtain ⟨rfl, e3⟩ := h3
  obtain rfl := e3.symm
  rw [e1]
  refine g_iload hF2 (by decide +kernel : decode cL_law 2110 = .ok (.iload 6, 2)) rfl ?_
  refine g_icmp_eq hF2 (tgt := 2117) (by decide +kernel : decode cL_law 2112 = .ok (.if_icmp .eq 5, 3)) (by decide) (by omega) (by omega) (fun c2112 => ?_) (fun c2112 => absurd rfl c2112)
  refine g_iload hF2 (by decide +kernel : decode cL_law 2117 = .ok (.iload 6, 2)) rfl ?_
  refine g_if_ne hF2 (tgt := 2134) (by decide +kernel : decode cL_law 2119 = .ok (.ifCond .ne 15, 3)) (by decide) (by omega) (fun c2119 => ?_) (fun c2119 => ?_)
  · skip
    refine g_goto hF2 (tgt := 3451) (by decide +kernel : decode cL_law 2134 = .ok (.goto 1317, 3)) (by decide) ?_
    refine g_take 6 ?_
    exact k _ e2
  · skip
    obtain ⟨b2, hb2, hv⟩ := e4 c2119
    cases hb2
    refine g_aload_n hF2 (by decide +kernel : decode cL_law 2122 = .ok (.aload_n 3, 1)) rfl ?_
    refine g_iconst hF2 (by decide +kernel : decode cL_law 2123 = .ok (.iconst 0, 1)) ?_
    refine g_laload hF2 (by decide +kernel : decode cL_law 2124 = .ok (.laload, 1)) ?_
    rw [hv]
    refine g_iload hF2 (by decide +kernel : decode cL_law 2125 = .ok (.iload 7, 2)) rfl ?_
    refine g_i2lN hF2 (by decide +kernel : decode cL_law 2127 = .ok (.i2l, 1)) ?_
    refine g_lcmpE hF2 (by decide +kernel : decode cL_law 2128 = .ok (.lcmp, 1)) rfl ?_
    refine g_if_eq hF2 (tgt := 2134) (by decide +kernel : decode cL_law 2129 = .ok (.ifCond .eq 5, 3)) (by decide) (by decide) (fun c2129 => ?_) (fun c2129 => absurd rfl c2129)
    refine g_goto hF2 (tgt := 3451) (by decide +kernel : decode cL_law 2134 = .ok (.goto 1317, 3)) (by decide) ?_
    refine g_take 6 ?_
    exact k _ e2
set_option maxHeartbeats 4000000 in
set_option maxRecDepth 100000 in
theorem lb_26 {F : jF} {X : jX} {L : Nat} {xs : Nat → Int32} (hF : jOk F X RL cL_law 10 (some .boolean) 20) (hX : jxok X) (hs : jScr F X L xs) (hroom : fk F + 1 ≤ (fR F).cells ∧ fn F + 6 ≤ (fR F).slots) (i : Nat) (hi : i + 5 ≤ L) (m : jM) (hR : Rel m) (k : ∀ m9 : jM, Rel m9 → jG (fup F (fk F + 1) (fn F + 6)) X m9 3451 (lw0 i) []) : jG F X m 2137 (lw0 i) [] := by
  have hF2 := hF.up (k := fk F + 1) (n := fn F + 6) hroom.1 hroom.2
  obtain ⟨c, Q, hc, hW, hM⟩ := st_less X hX (sx xs ((i : Int) + 1)) (sx_r _ _) (sx xs ((i : Int) + 2)) (sx_r _ _) (sx xs ((i : Int) + 3)) (sx_r _ _) m hR
  refine g_aload_n hF (by decide +kernel : decode cL_law 2137 = .ok (.aload_n 1, 1)) rfl ?_
  refine g_aload_n hF (by decide +kernel : decode cL_law 2138 = .ok (.aload_n 0, 1)) rfl ?_
  refine g_iload hF (by decide +kernel : decode cL_law 2139 = .ok (.iload 5, 2)) rfl ?_
  refine g_iconst hF (by decide +kernel : decode cL_law 2141 = .ok (.iconst 1, 1)) ?_
  refine g_iadd hF (by decide +kernel : decode cL_law 2142 = .ok (.iadd, 1)) ?_
  refine g_sld hF hs (by decide +kernel : decode cL_law 2143 = .ok (.iaload, 1)) ?_ ?_
  · exact ⟨by first | omega | (show (0 : Int) ≤ (i : Int) + _; omega), by first | omega | (show (i : Int) + _ < (L : Int); omega)⟩
  refine g_aload_n hF (by decide +kernel : decode cL_law 2144 = .ok (.aload_n 0, 1)) rfl ?_
  refine g_iload hF (by decide +kernel : decode cL_law 2145 = .ok (.iload 5, 2)) rfl ?_
  refine g_iconst hF (by decide +kernel : decode cL_law 2147 = .ok (.iconst 2, 1)) ?_
  refine g_iadd hF (by decide +kernel : decode cL_law 2148 = .ok (.iadd, 1)) ?_
  refine g_sld hF hs (by decide +kernel : decode cL_law 2149 = .ok (.iaload, 1)) ?_ ?_
  · exact ⟨by first | omega | (show (0 : Int) ≤ (i : Int) + _; omega), by first | omega | (show (i : Int) + _ < (L : Int); omega)⟩
  refine g_aload_n hF (by decide +kernel : decode cL_law 2150 = .ok (.aload_n 0, 1)) rfl ?_
  refine g_iload hF (by decide +kernel : decode cL_law 2151 = .ok (.iload 5, 2)) rfl ?_
  refine g_iconst hF (by decide +kernel : decode cL_law 2153 = .ok (.iconst 3, 1)) ?_
  refine g_iadd hF (by decide +kernel : decode cL_law 2154 = .ok (.iadd, 1)) ?_
  refine g_sld hF hs (by decide +kernel : decode cL_law 2155 = .ok (.iaload, 1)) ?_ ?_
  · exact ⟨by first | omega | (show (0 : Int) ≤ (i : Int) + _; omega), by first | omega | (show (i : Int) + _ < (L : Int); omega)⟩
  refine g_aload_n hF (by decide +kernel : decode cL_law 2156 = .ok (.aload_n 3, 1)) rfl ?_
  refine g_callL hF lkL_259 hW (by decide +kernel : decode cL_law 2157 = .ok (.invokestatic 259, 3)) (by decide) rfl rfl (Nat.le_of_ble_eq_true rfl) hroom (fun v1 m1 h1 => ?_)
  obtain ⟨rfl, hq⟩ := h1
  refine g_istore hF2 (by decide +kernel : decode cL_law 2160 = .ok (.istore 6, 2)) (by decide) ?_
  refine g_aload_n hF2 (by decide +kernel : decode cL_law 2162 = .ok (.aload_n 2, 1)) rfl ?_
  refine g_aload_n hF2 (by decide +kernel : decode cL_law 2163 = .ok (.aload_n 0, 1)) rfl ?_
  refine g_iload hF2 (by decide +kernel : decode cL_law 2164 = .ok (.iload 5, 2)) rfl ?_
  refine g_iconst hF2 (by decide +kernel : decode cL_law 2166 = .ok (.iconst 1, 1)) ?_
  refine g_iadd hF2 (by decide +kernel : decode cL_law 2167 = .ok (.iadd, 1)) ?_
  refine g_sld hF2 hs (by decide +kernel : decode cL_law 2168 = .ok (.iaload, 1)) ?_ ?_
  · exact ⟨by first | omega | (show (0 : Int) ≤ (i : Int) + _; omega), by first | omega | (show (i : Int) + _ < (L : Int); omega)⟩
  refine g_aload_n hF2 (by decide +kernel : decode cL_law 2169 = .ok (.aload_n 0, 1)) rfl ?_
  refine g_iload hF2 (by decide +kernel : decode cL_law 2170 = .ok (.iload 5, 2)) rfl ?_
  refine g_iconst hF2 (by decide +kernel : decode cL_law 2172 = .ok (.iconst 2, 1)) ?_
  refine g_iadd hF2 (by decide +kernel : decode cL_law 2173 = .ok (.iadd, 1)) ?_
  refine g_sld hF2 hs (by decide +kernel : decode cL_law 2174 = .ok (.iaload, 1)) ?_ ?_
  · exact ⟨by first | omega | (show (0 : Int) ≤ (i : Int) + _; omega), by first | omega | (show (i : Int) + _ < (L : Int); omega)⟩
  refine g_aload_n hF2 (by decide +kernel : decode cL_law 2175 = .ok (.aload_n 0, 1)) rfl ?_
  refine g_iload hF2 (by decide +kernel : decode cL_law 2176 = .ok (.iload 5, 2)) rfl ?_
  refine g_iconst hF2 (by decide +kernel : decode cL_law 2178 = .ok (.iconst 3, 1)) ?_
  refine g_iadd hF2 (by decide +kernel : decode cL_law 2179 = .ok (.iadd, 1)) ?_
  refine g_sld hF2 hs (by decide +kernel : decode cL_law 2180 = .ok (.iaload, 1)) ?_ ?_
  · exact ⟨by first | omega | (show (0 : Int) ≤ (i : Int) + _; omega), by first | omega | (show (i : Int) + _ < (L : Int); omega)⟩
  refine g_callV hF2 lkL_261 (hM m1 hq) (by decide +kernel : decode cL_law 2181 = .ok (.invokevirtual 261, 3)) (by decide) rfl rfl rfl rfl jok51 (Nat.le_of_ble_eq_true rfl) (fun v2 m2 h2 => ?_)
  obtain ⟨e1, e2, ⟨b, rfl⟩, e4⟩ := h2
  refine g_istore hF2 (by decide +kernel : decode cL_law 2184 = .ok (.istore 7, 2)) (by decide) ?_
  refine g_aload_n hF2 (by decide +kernel : decode cL_law 2186 = .ok (.aload_n 2, 1)) rfl ?_
  refine g_callV hF2 lkL_176 (c_X5_thrown X hX _) (by decide +kernel : decode cL_law 2187 = .ok (.invokevirtual 176, 3)) (by decide) rfl rfl rfl rfl jok51 (Nat.le_of_ble_eq_true rfl) (fun v3 m3 h3 => ?_)
  obtain ⟨rfl, e3⟩ := h3
  obtain rfl := e3.symm
  rw [e1]
  refine g_iload hF2 (by decide +kernel : decode cL_law 2190 = .ok (.iload 6, 2)) rfl ?_
  refine g_icmp_eq hF2 (tgt := 2197) (by decide +kernel : decode cL_law 2192 = .ok (.if_icmp .eq 5, 3)) (by decide) (by omega) (by omega) (fun c2192 => ?_) (fun c2192 => absurd rfl c2192)
  refine g_iload hF2 (by decide +kernel : decode cL_law 2197 = .ok (.iload 6, 2)) rfl ?_
  refine g_if_ne hF2 (tgt := 2214) (by decide +kernel : decode cL_law 2199 = .ok (.ifCond .ne 15, 3)) (by decide) (by omega) (fun c2199 => ?_) (fun c2199 => ?_)
  · skip
    refine g_goto hF2 (tgt := 3451) (by decide +kernel : decode cL_law 2214 = .ok (.goto 1237, 3)) (by decide) ?_
    refine g_take 6 ?_
    exact k _ e2
  · skip
    obtain ⟨b2, hb2, hv⟩ := e4 c2199
    cases hb2
    refine g_aload_n hF2 (by decide +kernel : decode cL_law 2202 = .ok (.aload_n 3, 1)) rfl ?_
    refine g_iconst hF2 (by decide +kernel : decode cL_law 2203 = .ok (.iconst 0, 1)) ?_
    refine g_laload hF2 (by decide +kernel : decode cL_law 2204 = .ok (.laload, 1)) ?_
    rw [hv]
    refine g_iload hF2 (by decide +kernel : decode cL_law 2205 = .ok (.iload 7, 2)) rfl ?_
    refine g_i2lN hF2 (by decide +kernel : decode cL_law 2207 = .ok (.i2l, 1)) ?_
    refine g_lcmpE hF2 (by decide +kernel : decode cL_law 2208 = .ok (.lcmp, 1)) rfl ?_
    refine g_if_eq hF2 (tgt := 2214) (by decide +kernel : decode cL_law 2209 = .ok (.ifCond .eq 5, 3)) (by decide) (by decide) (fun c2209 => ?_) (fun c2209 => absurd rfl c2209)
    refine g_goto hF2 (tgt := 3451) (by decide +kernel : decode cL_law 2214 = .ok (.goto 1237, 3)) (by decide) ?_
    refine g_take 6 ?_
    exact k _ e2
set_option maxHeartbeats 4000000 in
set_option maxRecDepth 100000 in
theorem lb_27 {F : jF} {X : jX} {L : Nat} {xs : Nat → Int32} (hF : jOk F X RL cL_law 10 (some .boolean) 20) (hX : jxok X) (hs : jScr F X L xs) (hroom : fk F + 1 ≤ (fR F).cells ∧ fn F + 6 ≤ (fR F).slots) (i : Nat) (hi : i + 5 ≤ L) (m : jM) (hR : Rel m) (k : ∀ m9 : jM, Rel m9 → jG (fup F (fk F + 1) (fn F + 6)) X m9 3451 (lw0 i) []) : jG F X m 2217 (lw0 i) [] := by
  have hF2 := hF.up (k := fk F + 1) (n := fn F + 6) hroom.1 hroom.2
  obtain ⟨c, Q, hc, hW, hM⟩ := st_common X hX (sx xs ((i : Int) + 1)) (sx_r _ _) (sx xs ((i : Int) + 2)) (sx_r _ _) (sx xs ((i : Int) + 3)) (sx_r _ _) m hR
  refine g_aload_n hF (by decide +kernel : decode cL_law 2217 = .ok (.aload_n 1, 1)) rfl ?_
  refine g_aload_n hF (by decide +kernel : decode cL_law 2218 = .ok (.aload_n 0, 1)) rfl ?_
  refine g_iload hF (by decide +kernel : decode cL_law 2219 = .ok (.iload 5, 2)) rfl ?_
  refine g_iconst hF (by decide +kernel : decode cL_law 2221 = .ok (.iconst 1, 1)) ?_
  refine g_iadd hF (by decide +kernel : decode cL_law 2222 = .ok (.iadd, 1)) ?_
  refine g_sld hF hs (by decide +kernel : decode cL_law 2223 = .ok (.iaload, 1)) ?_ ?_
  · exact ⟨by first | omega | (show (0 : Int) ≤ (i : Int) + _; omega), by first | omega | (show (i : Int) + _ < (L : Int); omega)⟩
  refine g_aload_n hF (by decide +kernel : decode cL_law 2224 = .ok (.aload_n 0, 1)) rfl ?_
  refine g_iload hF (by decide +kernel : decode cL_law 2225 = .ok (.iload 5, 2)) rfl ?_
  refine g_iconst hF (by decide +kernel : decode cL_law 2227 = .ok (.iconst 2, 1)) ?_
  refine g_iadd hF (by decide +kernel : decode cL_law 2228 = .ok (.iadd, 1)) ?_
  refine g_sld hF hs (by decide +kernel : decode cL_law 2229 = .ok (.iaload, 1)) ?_ ?_
  · exact ⟨by first | omega | (show (0 : Int) ≤ (i : Int) + _; omega), by first | omega | (show (i : Int) + _ < (L : Int); omega)⟩
  refine g_aload_n hF (by decide +kernel : decode cL_law 2230 = .ok (.aload_n 0, 1)) rfl ?_
  refine g_iload hF (by decide +kernel : decode cL_law 2231 = .ok (.iload 5, 2)) rfl ?_
  refine g_iconst hF (by decide +kernel : decode cL_law 2233 = .ok (.iconst 3, 1)) ?_
  refine g_iadd hF (by decide +kernel : decode cL_law 2234 = .ok (.iadd, 1)) ?_
  refine g_sld hF hs (by decide +kernel : decode cL_law 2235 = .ok (.iaload, 1)) ?_ ?_
  · exact ⟨by first | omega | (show (0 : Int) ≤ (i : Int) + _; omega), by first | omega | (show (i : Int) + _ < (L : Int); omega)⟩
  refine g_aload_n hF (by decide +kernel : decode cL_law 2236 = .ok (.aload_n 3, 1)) rfl ?_
  refine g_callL hF lkL_262 hW (by decide +kernel : decode cL_law 2237 = .ok (.invokestatic 262, 3)) (by decide) rfl rfl (Nat.le_of_ble_eq_true rfl) hroom (fun v1 m1 h1 => ?_)
  obtain ⟨rfl, hq⟩ := h1
  refine g_istore hF2 (by decide +kernel : decode cL_law 2240 = .ok (.istore 6, 2)) (by decide) ?_
  refine g_aload_n hF2 (by decide +kernel : decode cL_law 2242 = .ok (.aload_n 2, 1)) rfl ?_
  refine g_aload_n hF2 (by decide +kernel : decode cL_law 2243 = .ok (.aload_n 0, 1)) rfl ?_
  refine g_iload hF2 (by decide +kernel : decode cL_law 2244 = .ok (.iload 5, 2)) rfl ?_
  refine g_iconst hF2 (by decide +kernel : decode cL_law 2246 = .ok (.iconst 1, 1)) ?_
  refine g_iadd hF2 (by decide +kernel : decode cL_law 2247 = .ok (.iadd, 1)) ?_
  refine g_sld hF2 hs (by decide +kernel : decode cL_law 2248 = .ok (.iaload, 1)) ?_ ?_
  · exact ⟨by first | omega | (show (0 : Int) ≤ (i : Int) + _; omega), by first | omega | (show (i : Int) + _ < (L : Int); omega)⟩
  refine g_aload_n hF2 (by decide +kernel : decode cL_law 2249 = .ok (.aload_n 0, 1)) rfl ?_
  refine g_iload hF2 (by decide +kernel : decode cL_law 2250 = .ok (.iload 5, 2)) rfl ?_
  refine g_iconst hF2 (by decide +kernel : decode cL_law 2252 = .ok (.iconst 2, 1)) ?_
  refine g_iadd hF2 (by decide +kernel : decode cL_law 2253 = .ok (.iadd, 1)) ?_
  refine g_sld hF2 hs (by decide +kernel : decode cL_law 2254 = .ok (.iaload, 1)) ?_ ?_
  · exact ⟨by first | omega | (show (0 : Int) ≤ (i : Int) + _; omega), by first | omega | (show (i : Int) + _ < (L : Int); omega)⟩
  refine g_aload_n hF2 (by decide +kernel : decode cL_law 2255 = .ok (.aload_n 0, 1)) rfl ?_
  refine g_iload hF2 (by decide +kernel : decode cL_law 2256 = .ok (.iload 5, 2)) rfl ?_
  refine g_iconst hF2 (by decide +kernel : decode cL_law 2258 = .ok (.iconst 3, 1)) ?_
  refine g_iadd hF2 (by decide +kernel : decode cL_law 2259 = .ok (.iadd, 1)) ?_
  refine g_sld hF2 hs (by decide +kernel : decode cL_law 2260 = .ok (.iaload, 1)) ?_ ?_
  · exact ⟨by first | omega | (show (0 : Int) ≤ (i : Int) + _; omega), by first | omega | (show (i : Int) + _ < (L : Int); omega)⟩
  refine g_callV hF2 lkL_264 (hM m1 hq) (by decide +kernel : decode cL_law 2261 = .ok (.invokevirtual 264, 3)) (by decide) rfl rfl rfl rfl jok51 (Nat.le_of_ble_eq_true rfl) (fun v2 m2 h2 => ?_)
  obtain ⟨e1, e2, ⟨b, rfl⟩, e4⟩ := h2
  refine g_istore hF2 (by decide +kernel : decode cL_law 2264 = .ok (.istore 7, 2)) (by decide) ?_
  refine g_aload_n hF2 (by decide +kernel : decode cL_law 2266 = .ok (.aload_n 2, 1)) rfl ?_
  refine g_callV hF2 lkL_176 (c_X5_thrown X hX _) (by decide +kernel : decode cL_law 2267 = .ok (.invokevirtual 176, 3)) (by decide) rfl rfl rfl rfl jok51 (Nat.le_of_ble_eq_true rfl) (fun v3 m3 h3 => ?_)
  obtain ⟨rfl, e3⟩ := h3
  obtain rfl := e3.symm
  rw [e1]
  refine g_iload hF2 (by decide +kernel : decode cL_law 2270 = .ok (.iload 6, 2)) rfl ?_
  refine g_icmp_eq hF2 (tgt := 2277) (by decide +kernel : decode cL_law 2272 = .ok (.if_icmp .eq 5, 3)) (by decide) (by omega) (by omega) (fun c2272 => ?_) (fun c2272 => absurd rfl c2272)
  refine g_iload hF2 (by decide +kernel : decode cL_law 2277 = .ok (.iload 6, 2)) rfl ?_
  refine g_if_ne hF2 (tgt := 2294) (by decide +kernel : decode cL_law 2279 = .ok (.ifCond .ne 15, 3)) (by decide) (by omega) (fun c2279 => ?_) (fun c2279 => ?_)
  · skip
    refine g_goto hF2 (tgt := 3451) (by decide +kernel : decode cL_law 2294 = .ok (.goto 1157, 3)) (by decide) ?_
    refine g_take 6 ?_
    exact k _ e2
  · skip
    obtain ⟨b2, hb2, hv⟩ := e4 c2279
    cases hb2
    refine g_aload_n hF2 (by decide +kernel : decode cL_law 2282 = .ok (.aload_n 3, 1)) rfl ?_
    refine g_iconst hF2 (by decide +kernel : decode cL_law 2283 = .ok (.iconst 0, 1)) ?_
    refine g_laload hF2 (by decide +kernel : decode cL_law 2284 = .ok (.laload, 1)) ?_
    rw [hv]
    refine g_iload hF2 (by decide +kernel : decode cL_law 2285 = .ok (.iload 7, 2)) rfl ?_
    refine g_i2lN hF2 (by decide +kernel : decode cL_law 2287 = .ok (.i2l, 1)) ?_
    refine g_lcmpE hF2 (by decide +kernel : decode cL_law 2288 = .ok (.lcmp, 1)) rfl ?_
    refine g_if_eq hF2 (tgt := 2294) (by decide +kernel : decode cL_law 2289 = .ok (.ifCond .eq 5, 3)) (by decide) (by decide) (fun c2289 => ?_) (fun c2289 => absurd rfl c2289)
    refine g_goto hF2 (tgt := 3451) (by decide +kernel : decode cL_law 2294 = .ok (.goto 1157, 3)) (by decide) ?_
    refine g_take 6 ?_
    exact k _ e2

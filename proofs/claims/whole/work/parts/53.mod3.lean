set_option maxHeartbeats 4000000 in
set_option maxRecDepth 100000 in
theorem c_X5_follows (X : jX) (hX : jxok X) (s : Nat) (hs : s < 8) (k : Int) (hk : num k) (m : jM) (hm : rowok (mR m s)) : Con X yX5_follows cX5_follows 5 (some .int) 3 [vR 2 51, vI s, vI k] m (fun o m' => o = some (vI (per (mR m s) k)) ∧ MSm m m' ∧ (∀ z : Int, 0 ≤ z → z < 257 → m' 54 z = (wkN (mR m s) k (fun _ => 0) (per (mR m s) k)).2 z) ∧ m' 51 3 = againV (mR m s) k ∧ m' 51 2 = m 51 2) := by
  refine Con.of hX (by decide) (Nat.le_of_ble_eq_true rfl) (fun F hF hQ => ?_)
  have hk2 : -1 ≤ k ∧ k ≤ 255 := hk
  have j83 : ∀ (i : Nat) (q : jWk) (mm : jM), wkN (mR m s) k (fun _ => 0) i = q → per (mR m s) k = i → (-2 ≤ q.1 ∧ q.1 ≤ 255) → ain q.2 → mm = mrow m 54 q.2 → jG F X mm 83 [(0, vR 2 51), (1, vI s), (2, vI k), (3, vI i), (4, vI q.1)] [] := by
    intro i q mm hq hN hr hA hmm
    have e54 : mm 54 = q.2 := by rw [hmm, mrow_at]
    have hsm : MSm m mm := by rw [hmm]; exact MSm_row (Or.inr rfl) _
    refine g_aload_n hF (by decide +kernel : decode cX5_follows 83 = .ok (.aload_n 0, 1)) rfl ?_
    refine g_iload hF (by decide +kernel : decode cX5_follows 84 = .ok (.iload 4, 2)) rfl ?_
    refine g_bipush hF (by decide +kernel : decode cX5_follows 86 = .ok (.bipush (-2), 2)) (by decide) ?_
    refine g_icmp_le hF (tgt := 108) (by decide +kernel : decode cX5_follows 88 = .ok (.if_icmp .le 20, 3)) (by decide) (by omega) (by omega) (fun c88 => ?_) (fun c88 => ?_)
    · skip
      refine g_bipush hF (by decide +kernel : decode cX5_follows 108 = .ok (.bipush (-2), 2)) (by decide) ?_
      refine g_putC hF lkPX5_90 (by decide +kernel : decode cX5_follows 110 = .ok (.putfield 90, 3)) jok51 rfl rfl (Or.inl rfl) ?_
      refine g_iload_n hF (by decide +kernel : decode cX5_follows 113 = .ok (.iload_n 3, 1)) rfl ?_
      refine g_ireturn hF hQ (by decide +kernel : decode cX5_follows 114 = .ok (.ireturn, 1)) ?_
      exact ⟨by rw [hN], MSm_trans hsm (MSm_code _ (Or.inr rfl) _), fun z z0 z1 => by rw [mset_ne (by decide), e54, hN, hq], by rw [mset_at]; unfold againV; rw [hN, hq]; rw [if_neg (by omega)], by rw [mset_off (by decide), hmm, mrow_ne (by decide)]⟩
    · skip
      refine g_aload_n hF (by decide +kernel : decode cX5_follows 91 = .ok (.aload_n 0, 1)) rfl ?_
      refine g_getC hF lkX5_16 (by decide +kernel : decode cX5_follows 92 = .ok (.getfield 16, 3)) jok51 rfl rfl ?_
      refine g_iload hF (by decide +kernel : decode cX5_follows 95 = .ok (.iload 4, 2)) rfl ?_
      refine g_iconst hF (by decide +kernel : decode cX5_follows 97 = .ok (.iconst 1, 1)) ?_
      refine g_iadd hF (by decide +kernel : decode cX5_follows 98 = .ok (.iadd, 1)) ?_
      refine g_ldC hF (n := 257) (by decide +kernel : decode cX5_follows 99 = .ok (.iaload, 1)) jrr54 rfl (by omega) ?_
      have hb := hA (q.1 + 1) (by omega) (by omega)
      have hb2 : 0 ≤ mm 54 (q.1 + 1) ∧ mm 54 (q.1 + 1) ≤ 257 := by rw [e54]; exact hb
      refine g_if_le hF (tgt := 108) (by decide +kernel : decode cX5_follows 100 = .ok (.ifCond .le 8, 3)) (by decide) (by omega) (fun c100 => ?_) (fun c100 => ?_)
      · skip
        refine g_bipush hF (by decide +kernel : decode cX5_follows 108 = .ok (.bipush (-2), 2)) (by decide) ?_
        refine g_putC hF lkPX5_90 (by decide +kernel : decode cX5_follows 110 = .ok (.putfield 90, 3)) jok51 rfl rfl (Or.inl rfl) ?_
        refine g_iload_n hF (by decide +kernel : decode cX5_follows 113 = .ok (.iload_n 3, 1)) rfl ?_
        refine g_ireturn hF hQ (by decide +kernel : decode cX5_follows 114 = .ok (.ireturn, 1)) ?_
        exact ⟨by rw [hN], MSm_trans hsm (MSm_code _ (Or.inr rfl) _), fun z z0 z1 => by rw [mset_ne (by decide), e54, hN, hq], by rw [mset_at]; unfold againV; rw [hN, hq]; rw [if_neg (fun w => by rw [e54] at c100; omega)], by rw [mset_off (by decide), hmm, mrow_ne (by decide)]⟩
      · skip
        refine g_iload hF (by decide +kernel : decode cX5_follows 103 = .ok (.iload 4, 2)) rfl ?_
        refine g_goto hF (tgt := 110) (by decide +kernel : decode cX5_follows 105 = .ok (.goto 5, 3)) (by decide) ?_
        refine g_putC hF lkPX5_90 (by decide +kernel : decode cX5_follows 110 = .ok (.putfield 90, 3)) jok51 rfl rfl (Or.inl rfl) ?_
        refine g_iload_n hF (by decide +kernel : decode cX5_follows 113 = .ok (.iload_n 3, 1)) rfl ?_
        refine g_ireturn hF hQ (by decide +kernel : decode cX5_follows 114 = .ok (.ireturn, 1)) ?_
        exact ⟨by rw [hN], MSm_trans hsm (MSm_code _ (Or.inr rfl) _), fun z z0 z1 => by rw [mset_ne (by decide), e54, hN, hq], by rw [mset_at]; unfold againV; rw [hN, hq]; rw [if_pos ⟨by omega, by rw [e54] at c100; omega⟩], by rw [mset_off (by decide), hmm, mrow_ne (by decide)]⟩
  refine g_iconst hF (by decide +kernel : decode cX5_follows 0 = .ok (.iconst 0, 1)) ?_
  refine g_istore_n hF (by decide +kernel : decode cX5_follows 1 = .ok (.istore_n 3, 1)) (by decide) ?_
  have loop : ∀ (n i : Nat) (mm : jM), i ≤ 257 → 258 ≤ i + n → mm = mrow m 54 (upto (fun _ => 0) (m 54) i) → jG F X mm 2 [(0, vR 2 51), (1, vI s), (2, vI k), (3, vI i)] [] := by
    intro n
    induction n with
    | zero => intro i mm h1 h2; exact absurd h2 (by omega)
    | succ n ih =>
      intro i mm h1 h2 hc0
      refine g_iload_n hF (by decide +kernel : decode cX5_follows 2 = .ok (.iload_n 3, 1)) rfl ?_
      refine g_sipush hF (by decide +kernel : decode cX5_follows 3 = .ok (.sipush 257, 3)) (by decide) ?_
      refine g_icmp_ge hF (tgt := 22) (by decide +kernel : decode cX5_follows 6 = .ok (.if_icmp .ge 16, 3)) (by decide) (by omega) (by omega) (fun c6 => ?_) (fun c6 => ?_)
      · skip
        refine jG_m hc0 ?_
        obtain rfl : i = 257 := by omega
        refine g_eqv (mrow_eqv rfl upto_all) ?_
        refine g_iconst hF (by decide +kernel : decode cX5_follows 22 = .ok (.iconst 0, 1)) ?_
        refine g_istore_n hF (by decide +kernel : decode cX5_follows 23 = .ok (.istore_n 3, 1)) (by decide) ?_
        refine g_iload_n hF (by decide +kernel : decode cX5_follows 24 = .ok (.iload_n 2, 1)) rfl ?_
        refine g_istore hF (by decide +kernel : decode cX5_follows 25 = .ok (.istore 4, 2)) (by decide) ?_
        have loop2 : ∀ (n i : Nat) (q : jWk) (mm : jM), i ≤ 257 → 258 ≤ i + n → wkN (mR m s) k (fun _ => 0) i = q → (∀ j : Nat, j < i → wgo (mR m s) (wkN (mR m s) k (fun _ => 0) j)) → (-2 ≤ q.1 ∧ q.1 ≤ 255) → mm = mrow m 54 q.2 → jG F X mm 27 [(0, vR 2 51), (1, vI s), (2, vI k), (3, vI i), (4, vI q.1)] [] := by
          intro n
          induction n with
          | zero => intro i q mm h1 h2; exact absurd h2 (by omega)
          | succ n ih =>
            intro i q mm h1 h2 hq hgo hr hmm
            have e54 : mm 54 = q.2 := by rw [hmm, mrow_at]
            have e52 : mR mm s = mR m s := mR_52 (by rw [hmm, mrow_ne (by decide)]) s
            have hA : ain q.2 := by rw [← hq]; exact wkN_ain ain_0 i h1
            refine g_iload hF (by decide +kernel : decode cX5_follows 27 = .ok (.iload 4, 2)) rfl ?_
            refine g_bipush hF (by decide +kernel : decode cX5_follows 29 = .ok (.bipush (-2), 2)) (by decide) ?_
            refine g_icmp_le hF (tgt := 83) (by decide +kernel : decode cX5_follows 31 = .ok (.if_icmp .le 52, 3)) (by decide) (by omega) (by omega) (fun c31 => ?_) (fun c31 => ?_)
            · skip
              have hN : per (mR m s) k = i := wkS_eq hgo (by rw [hq]; exact fun w => w.1 (tat_out (by omega)))
              first
              | exact j83 i q mm hq hN hr hA hmm
              | skip
            · skip
              refine g_aload_n hF (by decide +kernel : decode cX5_follows 34 = .ok (.aload_n 0, 1)) rfl ?_
              refine g_iload_n hF (by decide +kernel : decode cX5_follows 35 = .ok (.iload_n 1, 1)) rfl ?_
              refine g_iload hF (by decide +kernel : decode cX5_follows 36 = .ok (.iload 4, 2)) rfl ?_
              refine g_callV hF lkX5_60 (c_X5_at X hX _ (by omega) _ (show num _ from ⟨by omega, by omega⟩) _) (by decide +kernel : decode cX5_follows 38 = .ok (.invokevirtual 60, 3)) (by decide) rfl rfl rfl rfl jok51 (Nat.le_of_ble_eq_true rfl) (fun v38 m38 h38 => ?_)
              obtain ⟨rfl, e38⟩ := h38
              obtain rfl := e38.symm
              rw [e52]
              have hb := hm (q.1 + 1) (by omega) (by omega)
              have tq : tat (mR m s) q.1 = mR m s (q.1 + 1) := tat_in ⟨by omega, by omega⟩
              refine g_bipush hF (by decide +kernel : decode cX5_follows 41 = .ok (.bipush (-2), 2)) (by decide) ?_
              refine g_icmp_le hF (tgt := 83) (by decide +kernel : decode cX5_follows 43 = .ok (.if_icmp .le 40, 3)) (by decide) (by omega) (by omega) (fun c43 => ?_) (fun c43 => ?_)
              · skip
                have hN : per (mR m s) k = i := wkS_eq hgo (by rw [hq]; exact fun w => w.1 (by rw [tq]; omega))
                first
                | exact j83 i q mm hq hN hr hA hmm
                | skip
              · skip
                refine g_aload_n hF (by decide +kernel : decode cX5_follows 46 = .ok (.aload_n 0, 1)) rfl ?_
                refine g_getC hF lkX5_16 (by decide +kernel : decode cX5_follows 47 = .ok (.getfield 16, 3)) jok51 rfl rfl ?_
                refine g_iload hF (by decide +kernel : decode cX5_follows 50 = .ok (.iload 4, 2)) rfl ?_
                refine g_iconst hF (by decide +kernel : decode cX5_follows 52 = .ok (.iconst 1, 1)) ?_
                refine g_iadd hF (by decide +kernel : decode cX5_follows 53 = .ok (.iadd, 1)) ?_
                refine g_ldC hF (n := 257) (by decide +kernel : decode cX5_follows 54 = .ok (.iaload, 1)) jrr54 rfl (by omega) ?_
                rw [e54]
                have hb3 := hA (q.1 + 1) (by omega) (by omega)
                refine g_if_ne hF (tgt := 83) (by decide +kernel : decode cX5_follows 55 = .ok (.ifCond .ne 28, 3)) (by decide) (by omega) (fun c55 => ?_) (fun c55 => ?_)
                · skip
                  have hN : per (mR m s) k = i := wkS_eq hgo (by rw [hq]; exact fun w => by have := w.2; omega)
                  first
                  | exact j83 i q mm hq hN hr hA hmm
                  | skip
                · skip
                  have hg : wgo (mR m s) q := ⟨by rw [tq]; omega, by omega⟩
                  refine g_iinc hF (by decide +kernel : decode cX5_follows 58 = .ok (.iinc 3 1, 3)) rfl (by decide) ?_
                  refine g_aload_n hF (by decide +kernel : decode cX5_follows 61 = .ok (.aload_n 0, 1)) rfl ?_
                  refine g_getC hF lkX5_16 (by decide +kernel : decode cX5_follows 62 = .ok (.getfield 16, 3)) jok51 rfl rfl ?_
                  refine g_iload hF (by decide +kernel : decode cX5_follows 65 = .ok (.iload 4, 2)) rfl ?_
                  refine g_iconst hF (by decide +kernel : decode cX5_follows 67 = .ok (.iconst 1, 1)) ?_
                  refine g_iadd hF (by decide +kernel : decode cX5_follows 68 = .ok (.iadd, 1)) ?_
                  refine g_iload_n hF (by decide +kernel : decode cX5_follows 69 = .ok (.iload_n 3, 1)) rfl ?_
                  refine g_stC hF (n := 257) (by decide +kernel : decode cX5_follows 70 = .ok (.iastore, 1)) jrr54 rfl (by omega) ?_
                  refine g_aload_n hF (by decide +kernel : decode cX5_follows 71 = .ok (.aload_n 0, 1)) rfl ?_
                  refine g_iload_n hF (by decide +kernel : decode cX5_follows 72 = .ok (.iload_n 1, 1)) rfl ?_
                  refine g_iload hF (by decide +kernel : decode cX5_follows 73 = .ok (.iload 4, 2)) rfl ?_
                  refine g_callV hF lkX5_60 (c_X5_at X hX _ (by omega) _ (show num _ from ⟨by omega, by omega⟩) _) (by decide +kernel : decode cX5_follows 75 = .ok (.invokevirtual 60, 3)) (by decide) rfl rfl rfl rfl jok51 (Nat.le_of_ble_eq_true rfl) (fun v75 m75 h75 => ?_)
                  obtain ⟨rfl, e75⟩ := h75
                  obtain rfl := e75.symm
                  rw [show mR (mset mm 54 (q.1 + 1) ((i : Int) + 1)) s (q.1 + 1) = tat (mR m s) q.1 by rw [tq, ← e52]; exact congrArg (fun f => f (q.1 + 1)) (mR_52 (m := mm) (m1 := mset mm 54 (q.1 + 1) ((i : Int) + 1)) (mset_ne (show (52 : Nat) ≠ 54 by decide)) s)]
                  refine g_istore hF (by decide +kernel : decode cX5_follows 78 = .ok (.istore 4, 2)) (by decide) ?_
                  refine g_goto hF (tgt := 27) (by decide +kernel : decode cX5_follows 80 = .ok (.goto (-53), 3)) (by decide) ?_
                  exact ih (i + 1) (tat (mR m s) q.1, fun z => if z = q.1 + 1 then (i : Int) + 1 else q.2 z) (mset mm 54 (q.1 + 1) ((i : Int) + 1)) (Classical.byContradiction (fun y => by
                    obtain rfl : i = 257 := (by omega)
                    exact wkN_257 hgo (by rw [hq]; exact hg))) (by omega) (by rw [wkN_s, hq]) (fun j hj => by
                    by_cases e : j = i
                    · rw [e, hq]; exact hg
                    · exact hgo j (by omega)) (tat_b hm q.1) (by rw [mset_row, hmm, mrow_mrow, mrow_at])
        exact loop2 258 0 (k, fun _ => 0) _ (by omega) (by omega) (wkN_0 _ _ _) (fun j hj => absurd hj (by omega)) ⟨by show -2 ≤ k; omega, by show k ≤ 255; omega⟩ rfl
      · skip
        refine g_aload_n hF (by decide +kernel : decode cX5_follows 9 = .ok (.aload_n 0, 1)) rfl ?_
        refine g_getC hF lkX5_16 (by decide +kernel : decode cX5_follows 10 = .ok (.getfield 16, 3)) jok51 rfl rfl ?_
        refine g_iload_n hF (by decide +kernel : decode cX5_follows 13 = .ok (.iload_n 3, 1)) rfl ?_
        refine g_iconst hF (by decide +kernel : decode cX5_follows 14 = .ok (.iconst 0, 1)) ?_
        refine g_stC hF (n := 257) (by decide +kernel : decode cX5_follows 15 = .ok (.iastore, 1)) jrr54 rfl (by omega) ?_
        refine g_iinc hF (by decide +kernel : decode cX5_follows 16 = .ok (.iinc 3 1, 3)) rfl (by decide) ?_
        refine g_goto hF (tgt := 2) (by decide +kernel : decode cX5_follows 19 = .ok (.goto (-17), 3)) (by decide) ?_
        exact ih (i + 1) _ (by omega) (by omega) (by rw [mset_row, hc0, mrow_mrow, mrow_at, upto_put (g := fun _ => 0) (f := m 54) (i := i) (v := 0) rfl])
  exact loop 258 0 m (by omega) (by omega) (by rw [show ((0 : Nat) : Int) = 0 from rfl, upto_0, mrow_self])
set_option maxHeartbeats 4000000 in
set_option maxRecDepth 100000 in
theorem c_X5_keeps (X : jX) (hX : jxok X) (s : Nat) (hs : s < 8) (m : jM) (hI : MI m) : Con X yX5_keeps cX5_keeps 4 none 1 [vR 2 51, vI s] m (fun o m' => o = none ∧ MKp m s m') := by
  refine Con.of hX (by decide) (Nat.le_of_ble_eq_true rfl) (fun F hF hQ => ?_)
  obtain ⟨i1, i2, c0, i5, i6, i7⟩ := hI
  have j88 : ∀ (c d : Nat) (m2 : jM), (d = 0 ∧ c < 8 ∨ d = 1 ∧ c = 7) → m 51 1 = (c : Int) + d → m2 51 1 = c → (∀ j : Nat, j ≠ 51 → j ≠ 57 → j ≠ 58 → m2 j = m j) → m2 51 0 = m 51 0 → m2 51 2 = m 51 2 → m2 51 3 = m 51 3 → (∀ i : Int, 0 ≤ i → i < c → m2 57 i = m 57 (i + d)) → (∀ p : Int, 0 ≤ p → p < 257 * (c : Int) → m2 58 p = m 58 (p + 257 * (d : Int))) → jG F X m2 88 [(0, vR 2 51), (1, vI s)] [] := by
    intro c d m2 hc g1 g2 g3 g4 g5 g6 g7 g8
    have g52 : m2 52 = m 52 := g3 52 (by decide) (by decide) (by decide)
    refine g_aload_n hF (by decide +kernel : decode cX5_keeps 88 = .ok (.aload_n 0, 1)) rfl ?_
    refine g_getC hF lkX5_25 (by decide +kernel : decode cX5_keeps 89 = .ok (.getfield 25, 3)) jok51 rfl rfl ?_
    refine g_aload_n hF (by decide +kernel : decode cX5_keeps 92 = .ok (.aload_n 0, 1)) rfl ?_
    refine g_getC hF lkX5_39 (by decide +kernel : decode cX5_keeps 93 = .ok (.getfield 39, 3)) jok51 rfl rfl ?_
    rw [g2]
    refine g_iload_n hF (by decide +kernel : decode cX5_keeps 96 = .ok (.iload_n 1, 1)) rfl ?_
    refine g_stC hF (n := 8) (by decide +kernel : decode cX5_keeps 97 = .ok (.iastore, 1)) jrr57 rfl (by omega) ?_
    refine g_iconst hF (by decide +kernel : decode cX5_keeps 98 = .ok (.iconst 0, 1)) ?_
    refine g_istore_n hF (by decide +kernel : decode cX5_keeps 99 = .ok (.istore_n 2, 1)) (by decide) ?_
    have loop : ∀ (n i : Nat) (mm : jM), i ≤ 257 → 258 ≤ i + n → mm = kL m m2 c s i → jG F X mm 100 [(0, vR 2 51), (1, vI s), (2, vI i)] [] := by
      intro n
      induction n with
      | zero => intro i mm h1 h2; exact absurd h2 (by omega)
      | succ n ih =>
        intro i mm h1 h2 hc0
        have hk1 : mm 51 1 = c := by rw [hc0, kL_ne (by decide) (by decide), g2]
        have h52 : mm 52 = m2 52 := by rw [hc0, kL_ne (by decide) (by decide)]
        refine g_iload_n hF (by decide +kernel : decode cX5_keeps 100 = .ok (.iload_n 2, 1)) rfl ?_
        refine g_sipush hF (by decide +kernel : decode cX5_keeps 101 = .ok (.sipush 257, 3)) (by decide) ?_
        refine g_icmp_ge hF (tgt := 140) (by decide +kernel : decode cX5_keeps 104 = .ok (.if_icmp .ge 36, 3)) (by decide) (by omega) (by omega) (fun c104 => ?_) (fun c104 => ?_)
        · skip
          refine g_aload_n hF (by decide +kernel : decode cX5_keeps 140 = .ok (.aload_n 0, 1)) rfl ?_
          refine g_dup hF (by decide +kernel : decode cX5_keeps 141 = .ok (.dup, 1)) rfl ?_
          refine g_getC hF lkX5_39 (by decide +kernel : decode cX5_keeps 142 = .ok (.getfield 39, 3)) jok51 rfl rfl ?_
          refine g_iconst hF (by decide +kernel : decode cX5_keeps 145 = .ok (.iconst 1, 1)) ?_
          rw [hk1]
          refine g_iadd hF (by decide +kernel : decode cX5_keeps 146 = .ok (.iadd, 1)) ?_
          refine g_putC hF lkPX5_39 (by decide +kernel : decode cX5_keeps 147 = .ok (.putfield 39, 3)) jok51 rfl rfl (Or.inl rfl) ?_
          refine g_return hF hQ (by decide +kernel : decode cX5_keeps 150 = .ok (.return_, 1)) ?_
          exact ⟨rfl, keep_all hc g1 g3 g4 g5 g6 g7 g8 (by rw [hc0, show i = 257 by omega])⟩
        · skip
          refine g_aload_n hF (by decide +kernel : decode cX5_keeps 107 = .ok (.aload_n 0, 1)) rfl ?_
          refine g_getC hF lkX5_28 (by decide +kernel : decode cX5_keeps 108 = .ok (.getfield 28, 3)) jok51 rfl rfl ?_
          refine g_sipush hF (by decide +kernel : decode cX5_keeps 111 = .ok (.sipush 257, 3)) (by decide) ?_
          refine g_aload_n hF (by decide +kernel : decode cX5_keeps 114 = .ok (.aload_n 0, 1)) rfl ?_
          refine g_getC hF lkX5_39 (by decide +kernel : decode cX5_keeps 115 = .ok (.getfield 39, 3)) jok51 rfl rfl ?_
          rw [hk1]
          refine g_imul hF (by decide +kernel : decode cX5_keeps 118 = .ok (.imul, 1)) ?_
          refine g_iload_n hF (by decide +kernel : decode cX5_keeps 119 = .ok (.iload_n 2, 1)) rfl ?_
          refine g_iadd hF (by decide +kernel : decode cX5_keeps 120 = .ok (.iadd, 1)) ?_
          refine g_aload_n hF (by decide +kernel : decode cX5_keeps 121 = .ok (.aload_n 0, 1)) rfl ?_
          refine g_getC hF lkX5_7 (by decide +kernel : decode cX5_keeps 122 = .ok (.getfield 7, 3)) jok51 rfl rfl ?_
          refine g_sipush hF (by decide +kernel : decode cX5_keeps 125 = .ok (.sipush 257, 3)) (by decide) ?_
          refine g_iload_n hF (by decide +kernel : decode cX5_keeps 128 = .ok (.iload_n 1, 1)) rfl ?_
          refine g_imul hF (by decide +kernel : decode cX5_keeps 129 = .ok (.imul, 1)) ?_
          refine g_iload_n hF (by decide +kernel : decode cX5_keeps 130 = .ok (.iload_n 2, 1)) rfl ?_
          refine g_iadd hF (by decide +kernel : decode cX5_keeps 131 = .ok (.iadd, 1)) ?_
          refine g_ldC hF (n := 2056) (by decide +kernel : decode cX5_keeps 132 = .ok (.iaload, 1)) jrr52 rfl (by omega) ?_
          refine g_stC hF (n := 2056) (by decide +kernel : decode cX5_keeps 133 = .ok (.iastore, 1)) jrr58 rfl (by omega) ?_
          refine g_iinc hF (by decide +kernel : decode cX5_keeps 134 = .ok (.iinc 2 1, 3)) rfl (by decide) ?_
          refine g_goto hF (tgt := 100) (by decide +kernel : decode cX5_keeps 137 = .ok (.goto (-37), 3)) (by decide) ?_
          exact ih (i + 1) _ (by omega) (by omega) (by rw [h52, hc0, g52]; exact kL_s (by omega) rfl)
    exact loop 258 0 _ (by omega) (by omega) (kL_0 m m2 c s).symm
  refine g_aload_n hF (by decide +kernel : decode cX5_keeps 0 = .ok (.aload_n 0, 1)) rfl ?_
  refine g_getC hF lkX5_39 (by decide +kernel : decode cX5_keeps 1 = .ok (.getfield 39, 3)) jok51 rfl rfl ?_
  refine g_bipush hF (by decide +kernel : decode cX5_keeps 4 = .ok (.bipush 8, 2)) (by decide) ?_
  refine g_icmp_ne hF (tgt := 88) (by decide +kernel : decode cX5_keeps 6 = .ok (.if_icmp .ne 82, 3)) (by decide) (by omega) (by omega) (fun c6 => ?_) (fun c6 => ?_)
  · skip
    first
    | exact j88 c0 0 m (by omega) (by omega) i6 (fun j _ _ _ => rfl) rfl rfl rfl (fun i _ _ => by rw [show i + ((0 : Nat) : Int) = i by omega]) (fun p _ _ => by rw [show p + 257 * ((0 : Nat) : Int) = p by omega])
    | refine g_take 2 ?_
      exact j88 7 1 _ (Or.inr ⟨rfl, rfl⟩) (by omega) f1 (fun j a b c => by rw [mset_ne a, hmm, kS_ne b c]) (by rw [mset_off (by decide), hmm, kS_ne (by decide) (by decide)]) (by rw [mset_off (by decide), hmm, kS_ne (by decide) (by decide)]) (by rw [mset_off (by decide), hmm, kS_ne (by decide) (by decide)]) (fun i a b => by rw [mset_ne (by decide), hmm, kS_57, upto_in a b]; rfl) (fun p a b => by rw [mset_ne (by decide), hmm, kS_58, upto_in a (by omega)]; exact congrArg (m 58) (by omega))
  · skip
    refine g_iconst hF (by decide +kernel : decode cX5_keeps 9 = .ok (.iconst 1, 1)) ?_
    refine g_istore_n hF (by decide +kernel : decode cX5_keeps 10 = .ok (.istore_n 2, 1)) (by decide) ?_
    have loop : ∀ (n j : Nat) (k : Int) (mm : jM), j ≤ 7 → 8 ≤ j + n → k = (j : Int) + 1 → mm = kS m j (257 * j) → jG F X mm 11 [(0, vR 2 51), (1, vI s), (2, vI k)] [] := by
      intro n
      induction n with
      | zero => intro j k mm h1 h2; exact absurd h2 (by omega)
      | succ n ih =>
        intro j k mm h1 h2 hk hmm
        have ih1 := ih
        have e57 : mm 57 k = m 57 ((j : Int) + 1) := by rw [hmm, kS_57, upto_at (by omega), hk]
        have e511 : mm 51 1 = 8 := by rw [hmm, kS_ne (by decide) (by decide)]; omega
        refine g_iload_n hF (by decide +kernel : decode cX5_keeps 11 = .ok (.iload_n 2, 1)) rfl ?_
        refine g_bipush hF (by decide +kernel : decode cX5_keeps 12 = .ok (.bipush 8, 2)) (by decide) ?_
        refine g_icmp_ge hF (tgt := 78) (by decide +kernel : decode cX5_keeps 14 = .ok (.if_icmp .ge 64, 3)) (by decide) (by omega) (by omega) (fun c14 => ?_) (fun c14 => ?_)
        · skip
          have hj : j = 7 := by omega
          subst hj
          have f1 : mset mm 51 1 (mm 51 1 - 1) 51 1 = ((7 : Nat) : Int) := by rw [mset_at, e511]; rfl
          refine g_aload_n hF (by decide +kernel : decode cX5_keeps 78 = .ok (.aload_n 0, 1)) rfl ?_
          refine g_dup hF (by decide +kernel : decode cX5_keeps 79 = .ok (.dup, 1)) rfl ?_
          refine g_getC hF lkX5_39 (by decide +kernel : decode cX5_keeps 80 = .ok (.getfield 39, 3)) jok51 rfl rfl ?_
          refine g_iconst hF (by decide +kernel : decode cX5_keeps 83 = .ok (.iconst 1, 1)) ?_
          refine g_isub hF (by decide +kernel : decode cX5_keeps 84 = .ok (.isub, 1)) ?_
          refine g_putC hF lkPX5_39 (by decide +kernel : decode cX5_keeps 85 = .ok (.putfield 39, 3)) jok51 rfl rfl (Or.inl rfl) ?_
          first
          | exact j88 c0 0 m (by omega) (by omega) i6 (fun j _ _ _ => rfl) rfl rfl rfl (fun i _ _ => by rw [show i + ((0 : Nat) : Int) = i by omega]) (fun p _ _ => by rw [show p + 257 * ((0 : Nat) : Int) = p by omega])
          | refine g_take 2 ?_
            exact j88 7 1 _ (Or.inr ⟨rfl, rfl⟩) (by omega) f1 (fun j a b c => by rw [mset_ne a, hmm, kS_ne b c]) (by rw [mset_off (by decide), hmm, kS_ne (by decide) (by decide)]) (by rw [mset_off (by decide), hmm, kS_ne (by decide) (by decide)]) (by rw [mset_off (by decide), hmm, kS_ne (by decide) (by decide)]) (fun i a b => by rw [mset_ne (by decide), hmm, kS_57, upto_in a b]; rfl) (fun p a b => by rw [mset_ne (by decide), hmm, kS_58, upto_in a (by omega)]; exact congrArg (m 58) (by omega))
        · skip
          refine g_aload_n hF (by decide +kernel : decode cX5_keeps 17 = .ok (.aload_n 0, 1)) rfl ?_
          refine g_getC hF lkX5_25 (by decide +kernel : decode cX5_keeps 18 = .ok (.getfield 25, 3)) jok51 rfl rfl ?_
          refine g_iload_n hF (by decide +kernel : decode cX5_keeps 21 = .ok (.iload_n 2, 1)) rfl ?_
          refine g_iconst hF (by decide +kernel : decode cX5_keeps 22 = .ok (.iconst 1, 1)) ?_
          refine g_isub hF (by decide +kernel : decode cX5_keeps 23 = .ok (.isub, 1)) ?_
          refine g_aload_n hF (by decide +kernel : decode cX5_keeps 24 = .ok (.aload_n 0, 1)) rfl ?_
          refine g_getC hF lkX5_25 (by decide +kernel : decode cX5_keeps 25 = .ok (.getfield 25, 3)) jok51 rfl rfl ?_
          refine g_iload_n hF (by decide +kernel : decode cX5_keeps 28 = .ok (.iload_n 2, 1)) rfl ?_
          refine g_ldC hF (n := 8) (by decide +kernel : decode cX5_keeps 29 = .ok (.iaload, 1)) jrr57 rfl (by omega) ?_
          refine g_stC hF (n := 8) (by decide +kernel : decode cX5_keeps 30 = .ok (.iastore, 1)) jrr57 rfl (by omega) ?_
          refine g_iconst hF (by decide +kernel : decode cX5_keeps 31 = .ok (.iconst 0, 1)) ?_
          refine g_istore_n hF (by decide +kernel : decode cX5_keeps 32 = .ok (.istore_n 3, 1)) (by decide) ?_
          have loop2 : ∀ (n i : Nat) (m3 : jM), i ≤ 257 → 258 ≤ i + n → m3 = kS m (j + 1) (257 * j + i) → jG F X m3 33 [(0, vR 2 51), (1, vI s), (2, vI k), (3, vI i)] [] := by
            intro n
            induction n with
            | zero => intro i m3 h1 h2; exact absurd h2 (by omega)
            | succ n ih =>
              intro i m3 h11 h12 hm3
              have e58 : m3 58 (257 * k + i) = m 58 (((257 * j + i : Nat) : Int) + 257) := by rw [hm3, kS_58, upto_at (by omega)]; exact congrArg (m 58) (by omega)
              refine g_iload_n hF (by decide +kernel : decode cX5_keeps 33 = .ok (.iload_n 3, 1)) rfl ?_
              refine g_sipush hF (by decide +kernel : decode cX5_keeps 34 = .ok (.sipush 257, 3)) (by decide) ?_
              refine g_icmp_ge hF (tgt := 72) (by decide +kernel : decode cX5_keeps 37 = .ok (.if_icmp .ge 35, 3)) (by decide) (by omega) (by omega) (fun c37 => ?_) (fun c37 => ?_)
              · skip
                refine g_iinc hF (by decide +kernel : decode cX5_keeps 72 = .ok (.iinc 2 1, 3)) rfl (by decide) ?_
                refine g_goto hF (tgt := 11) (by decide +kernel : decode cX5_keeps 75 = .ok (.goto (-64), 3)) (by decide) ?_
                refine g_take 3 ?_
                exact ih1 (j + 1) _ m3 (by omega) (by omega) (by omega) (by rw [hm3, show 257 * j + i = 257 * (j + 1) by omega])
              · skip
                refine g_aload_n hF (by decide +kernel : decode cX5_keeps 40 = .ok (.aload_n 0, 1)) rfl ?_
                refine g_getC hF lkX5_28 (by decide +kernel : decode cX5_keeps 41 = .ok (.getfield 28, 3)) jok51 rfl rfl ?_
                refine g_sipush hF (by decide +kernel : decode cX5_keeps 44 = .ok (.sipush 257, 3)) (by decide) ?_
                refine g_iload_n hF (by decide +kernel : decode cX5_keeps 47 = .ok (.iload_n 2, 1)) rfl ?_
                refine g_iconst hF (by decide +kernel : decode cX5_keeps 48 = .ok (.iconst 1, 1)) ?_
                refine g_isub hF (by decide +kernel : decode cX5_keeps 49 = .ok (.isub, 1)) ?_
                refine g_imul hF (by decide +kernel : decode cX5_keeps 50 = .ok (.imul, 1)) ?_
                refine g_iload_n hF (by decide +kernel : decode cX5_keeps 51 = .ok (.iload_n 3, 1)) rfl ?_
                refine g_iadd hF (by decide +kernel : decode cX5_keeps 52 = .ok (.iadd, 1)) ?_
                refine g_aload_n hF (by decide +kernel : decode cX5_keeps 53 = .ok (.aload_n 0, 1)) rfl ?_
                refine g_getC hF lkX5_28 (by decide +kernel : decode cX5_keeps 54 = .ok (.getfield 28, 3)) jok51 rfl rfl ?_
                refine g_sipush hF (by decide +kernel : decode cX5_keeps 57 = .ok (.sipush 257, 3)) (by decide) ?_
                refine g_iload_n hF (by decide +kernel : decode cX5_keeps 60 = .ok (.iload_n 2, 1)) rfl ?_
                refine g_imul hF (by decide +kernel : decode cX5_keeps 61 = .ok (.imul, 1)) ?_
                refine g_iload_n hF (by decide +kernel : decode cX5_keeps 62 = .ok (.iload_n 3, 1)) rfl ?_
                refine g_iadd hF (by decide +kernel : decode cX5_keeps 63 = .ok (.iadd, 1)) ?_
                refine g_ldC hF (n := 2056) (by decide +kernel : decode cX5_keeps 64 = .ok (.iaload, 1)) jrr58 rfl (by omega) ?_
                refine g_stC hF (n := 2056) (by decide +kernel : decode cX5_keeps 65 = .ok (.iastore, 1)) jrr58 rfl (by omega) ?_
                refine g_iinc hF (by decide +kernel : decode cX5_keeps 66 = .ok (.iinc 3 1, 3)) rfl (by decide) ?_
                refine g_goto hF (tgt := 33) (by decide +kernel : decode cX5_keeps 69 = .ok (.goto (-36), 3)) (by decide) ?_
                exact ih (i + 1) _ (by omega) (by omega) (by rw [e58, hm3]; exact kS_cell (by omega) rfl)
          exact loop2 258 0 _ (by omega) (by omega) (by rw [hmm, ← hmm, e57, hmm]; exact kS_slot (by omega) rfl)
    exact loop 8 0 1 m (by omega) (by omega) (by omega) (kS_0 m).symm
set_option maxHeartbeats 4000000 in
set_option maxRecDepth 100000 in
theorem c_X5_becomes (X : jX) (hX : jxok X) (u : Nat) (hu : u < 8) (m : jM) (hI : MI m) (hm : rowok (m 53)) : Con X yX5_becomes cX5_becomes 3 (some .int) 2 [vR 2 51, vI u] m (fun o m' => o = some (vI (cnt (m 53))) ∧ MW m u (m 53) m') := by
  refine Con.of hX (by decide) (Nat.le_of_ble_eq_true rfl) (fun F hF hQ => ?_)
  refine g_aload_n hF (by decide +kernel : decode cX5_becomes 0 = .ok (.aload_n 0, 1)) rfl ?_
  refine g_iload_n hF (by decide +kernel : decode cX5_becomes 1 = .ok (.iload_n 1, 1)) rfl ?_
  refine g_callV hF lkX5_56 (c_X5_keeps X hX _ (by omega) _ (by assumption)) (by decide +kernel : decode cX5_becomes 2 = .ok (.invokevirtual 56, 3)) (by decide) rfl rfl rfl rfl jok51 (Nat.le_of_ble_eq_true rfl) (fun v2 m2 h2 => ?_)
  obtain ⟨rfl, k2⟩ := h2
  refine g_iconst hF (by decide +kernel : decode cX5_becomes 5 = .ok (.iconst 0, 1)) ?_
  refine g_istore_n hF (by decide +kernel : decode cX5_becomes 6 = .ok (.istore_n 2, 1)) (by decide) ?_
  have loop : ∀ (n i : Nat) (mm : jM), i ≤ 257 → 258 ≤ i + n → mm = mw m2 u (upto (m 53) (mR m2 u) i) → jG F X mm 7 [(0, vR 2 51), (1, vI u), (2, vI i)] [] := by
    intro n
    induction n with
    | zero => intro i mm h1 h2; exact absurd h2 (by omega)
    | succ n ih =>
      intro i mm h1 h2 hc0
      have e53 : mm 53 = m 53 := by rw [hc0, mw_ne (by decide), k2.1 53 (by decide) (by decide) (by decide)]
      refine g_iload_n hF (by decide +kernel : decode cX5_becomes 7 = .ok (.iload_n 2, 1)) rfl ?_
      refine g_sipush hF (by decide +kernel : decode cX5_becomes 8 = .ok (.sipush 257, 3)) (by decide) ?_
      refine g_icmp_ge hF (tgt := 38) (by decide +kernel : decode cX5_becomes 11 = .ok (.if_icmp .ge 27, 3)) (by decide) (by omega) (by omega) (fun c11 => ?_) (fun c11 => ?_)
      · skip
        obtain rfl : i = 257 := by omega
        have hq : eqR (mR mm u) (m 53) := fun z a b => by rw [hc0, mR_mw m2 u _ z a b]; exact upto_all z a b
        have hmo : rowok (mR mm u) := fun z a b => by rw [hq z a b]; exact hm z a b
        have hw : MW m u (m 53) mm := MW_of k2 (by rw [hc0]; exact mw_congr upto_all)
        refine g_aload_n hF (by decide +kernel : decode cX5_becomes 38 = .ok (.aload_n 0, 1)) rfl ?_
        refine g_iload_n hF (by decide +kernel : decode cX5_becomes 39 = .ok (.iload_n 1, 1)) rfl ?_
        refine g_callV hF lkX5_68 (c_X5_many X hX _ (by omega) _ (by assumption)) (by decide +kernel : decode cX5_becomes 40 = .ok (.invokevirtual 68, 3)) (by decide) rfl rfl rfl rfl jok51 (Nat.le_of_ble_eq_true rfl) (fun v40 m40 h40 => ?_)
        obtain ⟨rfl, e40⟩ := h40
        obtain rfl := e40.symm
        refine g_ireturn hF hQ (by decide +kernel : decode cX5_becomes 43 = .ok (.ireturn, 1)) ?_
        exact ⟨by rw [cnt_congr hq], hw⟩
      · skip
        refine g_aload_n hF (by decide +kernel : decode cX5_becomes 14 = .ok (.aload_n 0, 1)) rfl ?_
        refine g_getC hF lkX5_7 (by decide +kernel : decode cX5_becomes 15 = .ok (.getfield 7, 3)) jok51 rfl rfl ?_
        refine g_sipush hF (by decide +kernel : decode cX5_becomes 18 = .ok (.sipush 257, 3)) (by decide) ?_
        refine g_iload_n hF (by decide +kernel : decode cX5_becomes 21 = .ok (.iload_n 1, 1)) rfl ?_
        refine g_imul hF (by decide +kernel : decode cX5_becomes 22 = .ok (.imul, 1)) ?_
        refine g_iload_n hF (by decide +kernel : decode cX5_becomes 23 = .ok (.iload_n 2, 1)) rfl ?_
        refine g_iadd hF (by decide +kernel : decode cX5_becomes 24 = .ok (.iadd, 1)) ?_
        refine g_aload_n hF (by decide +kernel : decode cX5_becomes 25 = .ok (.aload_n 0, 1)) rfl ?_
        refine g_getC hF lkX5_13 (by decide +kernel : decode cX5_becomes 26 = .ok (.getfield 13, 3)) jok51 rfl rfl ?_
        refine g_iload_n hF (by decide +kernel : decode cX5_becomes 29 = .ok (.iload_n 2, 1)) rfl ?_
        refine g_ldC hF (n := 257) (by decide +kernel : decode cX5_becomes 30 = .ok (.iaload, 1)) jrr53 rfl (by omega) ?_
        refine g_stC hF (n := 2056) (by decide +kernel : decode cX5_becomes 31 = .ok (.iastore, 1)) jrr52 rfl (by omega) ?_
        refine g_iinc hF (by decide +kernel : decode cX5_becomes 32 = .ok (.iinc 2 1, 3)) rfl (by decide) ?_
        refine g_goto hF (tgt := 7) (by decide +kernel : decode cX5_becomes 35 = .ok (.goto (-28), 3)) (by decide) ?_
        exact ih (i + 1) _ (by omega) (by omega) (by rw [e53, hc0]; exact mw_step rfl (by omega) rfl)
  exact loop 258 0 _ (by omega) (by omega) (by rw [show ((0 : Nat) : Int) = 0 from rfl, upto_0, mw_self])

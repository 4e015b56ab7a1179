set_option maxHeartbeats 4000000 in
set_option maxRecDepth 100000 in
theorem c_X4_greatestCommonDivisor (X : jX) (hX : jxok X) (a b : Nat) (ha : a < 9223372036854775808) (hb : b ≤ 257) (m : jM) : Con X yX4_greatestCommonDivisor cX4_greatestCommonDivisor 11 (some .long) 1 [vL a, vL b] m (fun o m' => o = some (vL ((Nat.gcd a b : Nat) : Int)) ∧ m' = m) := by
  refine Con.of hX (by decide) (Nat.le_of_ble_eq_true rfl) (fun F hF hQ => ?_)
  refine g_lload_n hF (by decide +kernel : decode cX4_greatestCommonDivisor 0 = .ok (.lload_n 0, 1)) rfl ?_
  refine g_lstore hF (by decide +kernel : decode cX4_greatestCommonDivisor 1 = .ok (.lstore 4, 2)) (by decide) ?_
  refine g_lload_n hF (by decide +kernel : decode cX4_greatestCommonDivisor 3 = .ok (.lload_n 2, 1)) rfl ?_
  refine g_lstore hF (by decide +kernel : decode cX4_greatestCommonDivisor 4 = .ok (.lstore 6, 2)) (by decide) ?_
  refine g_iconst hF (by decide +kernel : decode cX4_greatestCommonDivisor 6 = .ok (.iconst 0, 1)) ?_
  refine g_istore hF (by decide +kernel : decode cX4_greatestCommonDivisor 7 = .ok (.istore 8, 2)) (by decide) ?_
  have loop : ∀ (n i g s : Nat), i ≤ 200 → 201 ≤ i + n → g < 9223372036854775808 → s ≤ 257 → Nat.gcd g s = Nat.gcd a b → ((i = 0 ∧ g = a ∧ s = b) ∨ (1 ≤ i ∧ s ≤ g ∧ 3 * i + g + s + min 3 (2 * s) ≤ 519)) → jG F X m 9 [(0, vL a), (2, vL b), (4, vL g), (6, vL s), (8, vI i)] [] := by
    intro n
    induction n with
    | zero => intro i g s h1 h2; exact absurd h2 (by omega)
    | succ n ih =>
      intro i g s h1 h2 hg hs he hi
      refine g_iload hF (by decide +kernel : decode cX4_greatestCommonDivisor 9 = .ok (.iload 8, 2)) rfl ?_
      refine g_sipush hF (by decide +kernel : decode cX4_greatestCommonDivisor 11 = .ok (.sipush 200, 3)) (by decide) ?_
      refine g_icmp_ge hF (tgt := 45) (by decide +kernel : decode cX4_greatestCommonDivisor 14 = .ok (.if_icmp .ge 31, 3)) (by decide) (by omega) (by omega) (fun c14 => ?_) (fun c14 => ?_)
      · skip
        exact absurd c14 (by omega)
      · skip
        refine g_lload hF (by decide +kernel : decode cX4_greatestCommonDivisor 17 = .ok (.lload 6, 2)) rfl ?_
        refine g_lconst hF (by decide +kernel : decode cX4_greatestCommonDivisor 19 = .ok (.lconst 0, 1)) rfl ?_
        refine g_lcmp hF (by decide +kernel : decode cX4_greatestCommonDivisor 20 = .ok (.lcmp, 1)) (⟨by omega, by omega⟩) (⟨by omega, by omega⟩) ?_
        refine g_if_le hF (tgt := 45) (by decide +kernel : decode cX4_greatestCommonDivisor 21 = .ok (.ifCond .le 24, 3)) (by decide) (jcmp_r _ _) (fun c21 => ?_) (fun c21 => ?_)
        · skip
          have k0 : s = 0 := by have := jcmp_le.mp c21; omega
          refine g_lload hF (by decide +kernel : decode cX4_greatestCommonDivisor 45 = .ok (.lload 4, 2)) rfl ?_
          refine g_lreturn hF hQ (by decide +kernel : decode cX4_greatestCommonDivisor 47 = .ok (.lreturn, 1)) ?_
          exact ⟨by rw [← he, k0, Nat.gcd_zero_right], rfl⟩
        · skip
          have k0 : ¬ (s : Int) ≤ 0 := fun q => c21 (jcmp_le.mpr q)
          refine g_lload hF (by decide +kernel : decode cX4_greatestCommonDivisor 24 = .ok (.lload 4, 2)) rfl ?_
          refine g_lload hF (by decide +kernel : decode cX4_greatestCommonDivisor 26 = .ok (.lload 6, 2)) rfl ?_
          refine g_lrem hF (by decide +kernel : decode cX4_greatestCommonDivisor 28 = .ok (.lrem, 1)) (by omega) (by omega) ?_
          refine g_lstore hF (by decide +kernel : decode cX4_greatestCommonDivisor 29 = .ok (.lstore 9, 2)) (by decide) ?_
          refine g_lload hF (by decide +kernel : decode cX4_greatestCommonDivisor 31 = .ok (.lload 6, 2)) rfl ?_
          refine g_lstore hF (by decide +kernel : decode cX4_greatestCommonDivisor 33 = .ok (.lstore 4, 2)) (by decide) ?_
          refine g_lload hF (by decide +kernel : decode cX4_greatestCommonDivisor 35 = .ok (.lload 9, 2)) rfl ?_
          refine g_lstore hF (by decide +kernel : decode cX4_greatestCommonDivisor 37 = .ok (.lstore 6, 2)) (by decide) ?_
          refine g_iinc hF (by decide +kernel : decode cX4_greatestCommonDivisor 39 = .ok (.iinc 8 1, 3)) rfl (by decide) ?_
          refine g_goto hF (tgt := 9) (by decide +kernel : decode cX4_greatestCommonDivisor 42 = .ok (.goto (-33), 3)) (by decide) ?_
          rw [← Int.ofNat_tmod]
          refine g_take 9 ?_
          have k1 := Nat.mod_lt g (show 0 < s by omega)
          have k2 := @mod_sum g s
          refine ih (i + 1) s (g % s) (by omega) (by omega) (by omega) (by omega) (by rw [← he, Nat.gcd_comm g s, Nat.gcd_rec s g]; exact Nat.gcd_comm _ _) (Or.inr ⟨by omega, by omega, ?_⟩)
          rcases hi with ⟨j1, j2, j3⟩ | ⟨j1, j2, j3⟩
          · omega
          · have := k2 j2
            omega
  exact loop 201 0 a b (by omega) (by omega) (by omega) (by omega) rfl (Or.inl ⟨rfl, rfl, rfl⟩)
set_option maxHeartbeats 4000000 in
set_option maxRecDepth 100000 in
theorem c_X4_leastCommonMultiple (X : jX) (hX : jxok X) (a b : Nat) (ha : a < 9223372036854775808) (hb : 1 ≤ b ∧ b ≤ 257) (m : jM) : Con X yX4_leastCommonMultiple cX4_leastCommonMultiple 6 (some .long) 2 [vL a, vL b] m (fun o m' => o = some (vL ((Nat.lcm a b : Nat) : Int)) ∧ m' = m) := by
  refine Con.of hX (by decide) (Nat.le_of_ble_eq_true rfl) (fun F hF hQ => ?_)
  have hg := Nat.gcd_pos_of_pos_right a hb.1
  have hg2 := Nat.gcd_le_right a hb.1
  refine g_lload_n hF (by decide +kernel : decode cX4_leastCommonMultiple 0 = .ok (.lload_n 0, 1)) rfl ?_
  refine g_lload_n hF (by decide +kernel : decode cX4_leastCommonMultiple 1 = .ok (.lload_n 2, 1)) rfl ?_
  refine g_callS hF lkX4_324 (c_X4_greatestCommonDivisor X hX _ _ (by omega) (by omega) _) (by decide +kernel : decode cX4_leastCommonMultiple 2 = .ok (.invokestatic 324, 3)) (by decide) rfl rfl (Nat.le_of_ble_eq_true rfl) (fun v2 m2 h2 => ?_)
  obtain ⟨rfl, e2⟩ := h2
  obtain rfl := e2.symm
  refine g_lstore hF (by decide +kernel : decode cX4_leastCommonMultiple 5 = .ok (.lstore 4, 2)) (by decide) ?_
  refine g_lload hF (by decide +kernel : decode cX4_leastCommonMultiple 7 = .ok (.lload 4, 2)) rfl ?_
  refine g_lconst hF (by decide +kernel : decode cX4_leastCommonMultiple 9 = .ok (.lconst 0, 1)) rfl ?_
  refine g_lcmp hF (by decide +kernel : decode cX4_leastCommonMultiple 10 = .ok (.lcmp, 1)) (⟨by omega, by omega⟩) (⟨by omega, by omega⟩) ?_
  refine g_if_le hF (tgt := 23) (by decide +kernel : decode cX4_leastCommonMultiple 11 = .ok (.ifCond .le 12, 3)) (by decide) (jcmp_r _ _) (fun c11 => ?_) (fun c11 => ?_)
  · skip
    exact absurd (jcmp_le.mp c11) (by omega)
  · skip
    refine g_lload_n hF (by decide +kernel : decode cX4_leastCommonMultiple 14 = .ok (.lload_n 0, 1)) rfl ?_
    refine g_lload hF (by decide +kernel : decode cX4_leastCommonMultiple 15 = .ok (.lload 4, 2)) rfl ?_
    refine g_ldiv hF (by decide +kernel : decode cX4_leastCommonMultiple 17 = .ok (.ldiv, 1)) (by omega) (by omega) ?_
    refine g_lload_n hF (by decide +kernel : decode cX4_leastCommonMultiple 18 = .ok (.lload_n 2, 1)) rfl ?_
    refine g_lmul hF (by decide +kernel : decode cX4_leastCommonMultiple 19 = .ok (.lmul, 1)) ?_
    refine g_goto hF (tgt := 24) (by decide +kernel : decode cX4_leastCommonMultiple 20 = .ok (.goto 4, 3)) (by decide) ?_
    refine g_lreturn hF hQ (by decide +kernel : decode cX4_leastCommonMultiple 24 = .ok (.lreturn, 1)) ?_
    exact ⟨by rw [← lcm_div]; rfl, rfl⟩
set_option maxHeartbeats 4000000 in
set_option maxRecDepth 100000 in
theorem c_X4_leastCommonLength (X : jX) (hX : jxok X) (t : Nat) (ht : t < 8) (m : jM) (hC : CI m) (hp : perm (m t)) : Con X yX4_leastCommonLength cX4_leastCommonLength 5 (some .long) 6 [vR 2 38, vR 1 t] m (fun o m' => o = some (vL ((lcmN (m t) 257 : Nat) : Int)) ∧ CQ m m') := by
  refine Con.of hX (by decide) (Nat.le_of_ble_eq_true rfl) (fun F hF hQ => ?_)
  have hr := hp.1
  refine g_aload_n hF (by decide +kernel : decode cX4_leastCommonLength 0 = .ok (.aload_n 0, 1)) rfl ?_
  refine g_getC hF lkX4_32 (by decide +kernel : decode cX4_leastCommonLength 1 = .ok (.getfield 32, 3)) jok38 rfl rfl ?_
  refine g_callV hF lkX4_308 (c_X3_forget X hX _) (by decide +kernel : decode cX4_leastCommonLength 4 = .ok (.invokevirtual 308, 3)) (by decide) rfl rfl rfl rfl jok48 (Nat.le_of_ble_eq_true rfl) (fun v4 m4 h4 => ?_)
  obtain ⟨rfl, e4⟩ := h4
  have q4 : CQ m m4 := by rw [e4]; exact CQ_row hC (by unfold garb; omega) (by omega) _
  have a4 : m4 49 = fun _ => 0 := by rw [e4, mrow_at]
  refine g_lconst hF (by decide +kernel : decode cX4_leastCommonLength 7 = .ok (.lconst 1, 1)) rfl ?_
  refine g_lstore_n hF (by decide +kernel : decode cX4_leastCommonLength 8 = .ok (.lstore_n 2, 1)) (by decide) ?_
  refine g_iconst hF (by decide +kernel : decode cX4_leastCommonLength 9 = .ok (.iconst (-1), 1)) ?_
  refine g_istore hF (by decide +kernel : decode cX4_leastCommonLength 10 = .ok (.istore 4, 2)) (by decide) ?_
  have loop : ∀ (n i : Nat) (k L : Int) (mm : jM), i ≤ 257 → 258 ≤ i + n → k = i - 1 → L = (lcmN (m t) i : Nat) → CQ m mm → ordI (m t) i (mm 49) → jG F X mm 12 [(0, vR 2 38), (1, vR 1 t), (2, vL L), (4, vI k)] [] := by
    intro n
    induction n with
    | zero => intro i k L mm h1 h2; exact absurd h2 (by omega)
    | succ n ih =>
      intro i k L mm h1 h2 hk hL qm ho
      subst hL
      refine g_iload hF (by decide +kernel : decode cX4_leastCommonLength 12 = .ok (.iload 4, 2)) rfl ?_
      refine g_sipush hF (by decide +kernel : decode cX4_leastCommonLength 14 = .ok (.sipush 255, 3)) (by decide) ?_
      refine g_icmp_gt hF (tgt := 70) (by decide +kernel : decode cX4_leastCommonLength 17 = .ok (.if_icmp .gt 53, 3)) (by decide) (by omega) (by omega) (fun c17 => ?_) (fun c17 => ?_)
      · skip
        refine g_lload_n hF (by decide +kernel : decode cX4_leastCommonLength 70 = .ok (.lload_n 2, 1)) rfl ?_
        refine g_lreturn hF hQ (by decide +kernel : decode cX4_leastCommonLength 71 = .ok (.lreturn, 1)) ?_
        exact ⟨by rw [show i = 257 by omega], qm⟩
      · skip
        have tt : mm t = m t := qm.2 t (by unfold garb; omega)
        have hr2 : rowok (mm t) := by rw [tt]; exact hr
        refine g_aload_n hF (by decide +kernel : decode cX4_leastCommonLength 20 = .ok (.aload_n 1, 1)) rfl ?_
        refine g_iload hF (by decide +kernel : decode cX4_leastCommonLength 21 = .ok (.iload 4, 2)) rfl ?_
        refine g_callV hF lkX4_92 (c_X2_isKey X hX _ (show t < 19 by omega) _ (by omega) _ (by assumption)) (by decide +kernel : decode cX4_leastCommonLength 23 = .ok (.invokevirtual 92, 3)) (by decide) rfl rfl rfl rfl (show t < 19 by omega) (Nat.le_of_ble_eq_true rfl) (fun v23 m23 h23 => ?_)
        obtain ⟨rfl, e23⟩ := h23
        obtain rfl := e23.symm
        rw [tt, tat_i hk (by omega) (by omega)]
        refine g_if_eq hF (tgt := 64) (by decide +kernel : decode cX4_leastCommonLength 26 = .ok (.ifCond .eq 38, 3)) (by decide) (by split <;> omega) (fun c26 => ?_) (fun c26 => ?_)
        · skip
          have he : m t i = -2 := Classical.byContradiction (fun q => by rw [if_neg q] at c26; omega)
          refine g_iinc hF (by decide +kernel : decode cX4_leastCommonLength 64 = .ok (.iinc 4 1, 3)) rfl (by decide) ?_
          refine g_goto hF (tgt := 12) (by decide +kernel : decode cX4_leastCommonLength 67 = .ok (.goto (-55), 3)) (by decide) ?_
          exact ih (i + 1) _ _ mm (by omega) (by omega) (by omega) (by rw [lcmN_no he]) qm (ord_no ho he)
        · skip
          have he : m t i ≠ -2 := fun q => c26 (if_pos q)
          refine g_aload_n hF (by decide +kernel : decode cX4_leastCommonLength 29 = .ok (.aload_n 0, 1)) rfl ?_
          refine g_getC hF lkX4_32 (by decide +kernel : decode cX4_leastCommonLength 30 = .ok (.getfield 32, 3)) jok38 rfl rfl ?_
          refine g_iload hF (by decide +kernel : decode cX4_leastCommonLength 33 = .ok (.iload 4, 2)) rfl ?_
          have hA := ho.1
          refine g_callV hF lkX4_317 (c_X3_hasSeen X hX _ (by omega) _ (by assumption)) (by decide +kernel : decode cX4_leastCommonLength 35 = .ok (.invokevirtual 317, 3)) (by decide) rfl rfl rfl rfl jok48 (Nat.le_of_ble_eq_true rfl) (fun v35 m35 h35 => ?_)
          obtain ⟨rfl, e35⟩ := h35
          obtain rfl := e35.symm
          refine g_if_ne hF (tgt := 64) (by decide +kernel : decode cX4_leastCommonLength 38 = .ok (.ifCond .ne 26, 3)) (by decide) (by split <;> omega) (fun c38 => ?_) (fun c38 => ?_)
          · skip
            refine g_iinc hF (by decide +kernel : decode cX4_leastCommonLength 64 = .ok (.iinc 4 1, 3)) rfl (by decide) ?_
            refine g_goto hF (tgt := 12) (by decide +kernel : decode cX4_leastCommonLength 67 = .ok (.goto (-55), 3)) (by decide) ?_
            obtain ⟨o1, o2⟩ := ord_seen ho (show i < 257 by omega) (by rw [show (i : Int) = k + 1 by omega]; exact (i01_t c38).2)
            exact ih (i + 1) _ _ mm (by omega) (by omega) (by omega) (by rw [o2]) qm o1
          · skip
            refine g_aload_n hF (by decide +kernel : decode cX4_leastCommonLength 41 = .ok (.aload_n 0, 1)) rfl ?_
            refine g_getC hF lkX4_32 (by decide +kernel : decode cX4_leastCommonLength 42 = .ok (.getfield 32, 3)) jok38 rfl rfl ?_
            refine g_aload_n hF (by decide +kernel : decode cX4_leastCommonLength 45 = .ok (.aload_n 1, 1)) rfl ?_
            refine g_iload hF (by decide +kernel : decode cX4_leastCommonLength 46 = .ok (.iload 4, 2)) rfl ?_
            refine g_callV hF lkX4_311 (c_X3_follow X hX _ (show t < 19 by omega) _ (by omega) _ hr2 ho.1) (by decide +kernel : decode cX4_leastCommonLength 48 = .ok (.invokevirtual 311, 3)) (by decide) rfl rfl rfl rfl jok48 (Nat.le_of_ble_eq_true rfl) (fun v48 m48 h48 => ?_)
            obtain ⟨rfl, e48⟩ := h48
            rw [tt] at e48
            obtain ⟨n1, n2, n3⟩ := ord_new hp hk ho (by omega) he (fun q => i01_f c38 ⟨⟨by omega, by omega⟩, by rw [show k + 1 = (i : Int) by omega]; exact q⟩)
            have hkey : tat (m t) k ≠ -2 := by rw [tat_i hk (by omega) (by omega)]; exact he
            have hpa := per_at hp hkey
            rw [wkR_eq n1] at e48
            have e480 : m48 48 0 = per (m t) k := by rw [e48, mset_off (by decide), wkM_48_0]
            have e49 : m48 49 = (wkN (m t) k (mm 49) (per (m t) k)).2 := by rw [e48, mset_ne (by decide), wkM_49]
            have q48 : CQ m m48 := CQ_trans qm (CQ_of qm.1 (fun j hj => by rw [e48, mset_ne (fun q => hj (by unfold garb; omega)), wkM_ne (fun q => hj (by unfold garb; omega)) (fun q => hj (by unfold garb; omega))]) (fun u u1 u2 => by unfold tok; rw [e48, mset_ne (by omega), mset_ne (by omega), wkM_ne (by omega) (by omega), wkM_ne (by omega) (by omega)]; exact qm.1.1 u u2))
            have hl := lcm_small hp (n := i) (by omega)
            refine g_lload_n hF (by decide +kernel : decode cX4_leastCommonLength 51 = .ok (.lload_n 2, 1)) rfl ?_
            refine g_aload_n hF (by decide +kernel : decode cX4_leastCommonLength 52 = .ok (.aload_n 0, 1)) rfl ?_
            refine g_getC hF lkX4_32 (by decide +kernel : decode cX4_leastCommonLength 53 = .ok (.getfield 32, 3)) jok38 rfl rfl ?_
            refine g_getC hF lkX4_182 (by decide +kernel : decode cX4_leastCommonLength 56 = .ok (.getfield 182, 3)) jok48 rfl rfl ?_
            rw [e480]
            refine g_i2l hF (by decide +kernel : decode cX4_leastCommonLength 59 = .ok (.i2l, 1)) (by omega) ?_
            refine g_callS hF lkX4_320 (c_X4_leastCommonMultiple X hX _ _ hl hpa.2 _) (by decide +kernel : decode cX4_leastCommonLength 60 = .ok (.invokestatic 320, 3)) (by decide) rfl rfl (Nat.le_of_ble_eq_true rfl) (fun v60 m60 h60 => ?_)
            obtain ⟨rfl, e60⟩ := h60
            obtain rfl := e60.symm
            rw [← n3]
            refine g_lstore_n hF (by decide +kernel : decode cX4_leastCommonLength 63 = .ok (.lstore_n 2, 1)) (by decide) ?_
            refine g_iinc hF (by decide +kernel : decode cX4_leastCommonLength 64 = .ok (.iinc 4 1, 3)) rfl (by decide) ?_
            refine g_goto hF (tgt := 12) (by decide +kernel : decode cX4_leastCommonLength 67 = .ok (.goto (-55), 3)) (by decide) ?_
            exact ih (i + 1) _ _ m48 (by omega) (by omega) (by omega) rfl q48 (by rw [e49]; exact n2)
  exact loop 258 0 (-1) 1 m4 (by omega) (by omega) (by omega) (by rw [lcmN_0]; rfl) q4 (by rw [a4]; exact ord_0 _)

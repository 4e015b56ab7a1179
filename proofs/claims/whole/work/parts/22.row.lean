set_option maxHeartbeats 4000000 in
set_option maxRecDepth 100000 in
theorem c_X1_append (X : jX) (hX : jxok X) (k v : Int) (w : Nat) (m : jM) (hw : rwok m w) (h59 : w < 60) : Con X yX1_append cX1_append 3 none 1 [vR 2 40, vI k, vI v] m (fun o m' => o = none ∧ m' = mset (mset (mset m 41 w k) 42 w v) 40 0 (w + 1)) := by
  refine Con.of hX (by decide) (Nat.le_of_ble_eq_true rfl) (fun F hF hQ => ?_)
  have e40 := hw.1
  refine g_aload_n hF (by decide +kernel : decode cX1_append 0 = .ok (.aload_n 0, 1)) rfl ?_
  refine g_getC hF lkX1_25 (by decide +kernel : decode cX1_append 1 = .ok (.getfield 25, 3)) jok40 rfl rfl ?_
  refine g_bipush hF (by decide +kernel : decode cX1_append 4 = .ok (.bipush 60, 2)) (by decide) ?_
  refine g_icmp_ge hF (tgt := 39) (by decide +kernel : decode cX1_append 6 = .ok (.if_icmp .ge 33, 3)) (by decide) (by omega) (by omega) (fun c6 => ?_) (fun c6 => ?_)
  · skip
    exact absurd c6 (by omega)
  · skip
    refine g_aload_n hF (by decide +kernel : decode cX1_append 9 = .ok (.aload_n 0, 1)) rfl ?_
    refine g_getC hF lkX1_9 (by decide +kernel : decode cX1_append 10 = .ok (.getfield 9, 3)) jok40 rfl rfl ?_
    refine g_aload_n hF (by decide +kernel : decode cX1_append 13 = .ok (.aload_n 0, 1)) rfl ?_
    refine g_getC hF lkX1_25 (by decide +kernel : decode cX1_append 14 = .ok (.getfield 25, 3)) jok40 rfl rfl ?_
    refine g_iload_n hF (by decide +kernel : decode cX1_append 17 = .ok (.iload_n 1, 1)) rfl ?_
    refine g_stC hF (n := 60) (by decide +kernel : decode cX1_append 18 = .ok (.iastore, 1)) jrr41 rfl (by omega) ?_
    refine g_aload_n hF (by decide +kernel : decode cX1_append 19 = .ok (.aload_n 0, 1)) rfl ?_
    refine g_getC hF lkX1_15 (by decide +kernel : decode cX1_append 20 = .ok (.getfield 15, 3)) jok40 rfl rfl ?_
    refine g_aload_n hF (by decide +kernel : decode cX1_append 23 = .ok (.aload_n 0, 1)) rfl ?_
    refine g_getC hF lkX1_25 (by decide +kernel : decode cX1_append 24 = .ok (.getfield 25, 3)) jok40 rfl rfl ?_
    refine g_iload_n hF (by decide +kernel : decode cX1_append 27 = .ok (.iload_n 2, 1)) rfl ?_
    have e2 : mset m 41 (m 40 0) k 40 0 = m 40 0 := by rw [mset_ne (by decide)]
    refine g_stC hF (n := 60) (by decide +kernel : decode cX1_append 28 = .ok (.iastore, 1)) jrr42 rfl (by omega) ?_
    refine g_aload_n hF (by decide +kernel : decode cX1_append 29 = .ok (.aload_n 0, 1)) rfl ?_
    refine g_dup hF (by decide +kernel : decode cX1_append 30 = .ok (.dup, 1)) rfl ?_
    refine g_getC hF lkX1_25 (by decide +kernel : decode cX1_append 31 = .ok (.getfield 25, 3)) jok40 rfl rfl ?_
    refine g_iconst hF (by decide +kernel : decode cX1_append 34 = .ok (.iconst 1, 1)) ?_
    refine g_iadd hF (by decide +kernel : decode cX1_append 35 = .ok (.iadd, 1)) ?_
    refine g_putC hF lkPX1_25 (by decide +kernel : decode cX1_append 36 = .ok (.putfield 25, 3)) jok40 rfl rfl (Or.inl rfl) ?_
    refine g_return hF hQ (by decide +kernel : decode cX1_append 39 = .ok (.return_, 1)) ?_
    exact ⟨rfl, by rw [mset_ne (j := 42) (i := 40) (by decide), mset_ne (j := 41) (i := 40) (by decide), e40]⟩
set_option maxHeartbeats 4000000 in
set_option maxRecDepth 100000 in
theorem c_X1_swapWithNext (X : jX) (hX : jxok X) (i : Int) (m : jM) (hi : 0 ≤ i ∧ i + 1 < 60) : Con X yX1_swapWithNext cX1_swapWithNext 4 none 1 [vR 2 40, vI i] m (fun o m' => o = none ∧ m' = mrow (mrow m 41 (swp (m 41) i)) 42 (swp (m 42) i)) := by
  refine Con.of hX (by decide) (Nat.le_of_ble_eq_true rfl) (fun F hF hQ => ?_)
  refine g_aload_n hF (by decide +kernel : decode cX1_swapWithNext 0 = .ok (.aload_n 0, 1)) rfl ?_
  refine g_getC hF lkX1_9 (by decide +kernel : decode cX1_swapWithNext 1 = .ok (.getfield 9, 3)) jok40 rfl rfl ?_
  refine g_iload_n hF (by decide +kernel : decode cX1_swapWithNext 4 = .ok (.iload_n 1, 1)) rfl ?_
  refine g_ldC hF (n := 60) (by decide +kernel : decode cX1_swapWithNext 5 = .ok (.iaload, 1)) jrr41 rfl (by omega) ?_
  refine g_istore_n hF (by decide +kernel : decode cX1_swapWithNext 6 = .ok (.istore_n 2, 1)) (by decide) ?_
  refine g_aload_n hF (by decide +kernel : decode cX1_swapWithNext 7 = .ok (.aload_n 0, 1)) rfl ?_
  refine g_getC hF lkX1_15 (by decide +kernel : decode cX1_swapWithNext 8 = .ok (.getfield 15, 3)) jok40 rfl rfl ?_
  refine g_iload_n hF (by decide +kernel : decode cX1_swapWithNext 11 = .ok (.iload_n 1, 1)) rfl ?_
  refine g_ldC hF (n := 60) (by decide +kernel : decode cX1_swapWithNext 12 = .ok (.iaload, 1)) jrr42 rfl (by omega) ?_
  refine g_istore_n hF (by decide +kernel : decode cX1_swapWithNext 13 = .ok (.istore_n 3, 1)) (by decide) ?_
  refine g_aload_n hF (by decide +kernel : decode cX1_swapWithNext 14 = .ok (.aload_n 0, 1)) rfl ?_
  refine g_getC hF lkX1_9 (by decide +kernel : decode cX1_swapWithNext 15 = .ok (.getfield 9, 3)) jok40 rfl rfl ?_
  refine g_iload_n hF (by decide +kernel : decode cX1_swapWithNext 18 = .ok (.iload_n 1, 1)) rfl ?_
  refine g_aload_n hF (by decide +kernel : decode cX1_swapWithNext 19 = .ok (.aload_n 0, 1)) rfl ?_
  refine g_getC hF lkX1_9 (by decide +kernel : decode cX1_swapWithNext 20 = .ok (.getfield 9, 3)) jok40 rfl rfl ?_
  refine g_iload_n hF (by decide +kernel : decode cX1_swapWithNext 23 = .ok (.iload_n 1, 1)) rfl ?_
  refine g_iconst hF (by decide +kernel : decode cX1_swapWithNext 24 = .ok (.iconst 1, 1)) ?_
  refine g_iadd hF (by decide +kernel : decode cX1_swapWithNext 25 = .ok (.iadd, 1)) ?_
  refine g_ldC hF (n := 60) (by decide +kernel : decode cX1_swapWithNext 26 = .ok (.iaload, 1)) jrr41 rfl (by omega) ?_
  refine g_stC hF (n := 60) (by decide +kernel : decode cX1_swapWithNext 27 = .ok (.iastore, 1)) jrr41 rfl (by omega) ?_
  refine g_aload_n hF (by decide +kernel : decode cX1_swapWithNext 28 = .ok (.aload_n 0, 1)) rfl ?_
  refine g_getC hF lkX1_15 (by decide +kernel : decode cX1_swapWithNext 29 = .ok (.getfield 15, 3)) jok40 rfl rfl ?_
  refine g_iload_n hF (by decide +kernel : decode cX1_swapWithNext 32 = .ok (.iload_n 1, 1)) rfl ?_
  refine g_aload_n hF (by decide +kernel : decode cX1_swapWithNext 33 = .ok (.aload_n 0, 1)) rfl ?_
  refine g_getC hF lkX1_15 (by decide +kernel : decode cX1_swapWithNext 34 = .ok (.getfield 15, 3)) jok40 rfl rfl ?_
  refine g_iload_n hF (by decide +kernel : decode cX1_swapWithNext 37 = .ok (.iload_n 1, 1)) rfl ?_
  refine g_iconst hF (by decide +kernel : decode cX1_swapWithNext 38 = .ok (.iconst 1, 1)) ?_
  refine g_iadd hF (by decide +kernel : decode cX1_swapWithNext 39 = .ok (.iadd, 1)) ?_
  refine g_ldC hF (n := 60) (by decide +kernel : decode cX1_swapWithNext 40 = .ok (.iaload, 1)) jrr42 rfl (by omega) ?_
  refine g_stC hF (n := 60) (by decide +kernel : decode cX1_swapWithNext 41 = .ok (.iastore, 1)) jrr42 rfl (by omega) ?_
  refine g_aload_n hF (by decide +kernel : decode cX1_swapWithNext 42 = .ok (.aload_n 0, 1)) rfl ?_
  refine g_getC hF lkX1_9 (by decide +kernel : decode cX1_swapWithNext 43 = .ok (.getfield 9, 3)) jok40 rfl rfl ?_
  refine g_iload_n hF (by decide +kernel : decode cX1_swapWithNext 46 = .ok (.iload_n 1, 1)) rfl ?_
  refine g_iconst hF (by decide +kernel : decode cX1_swapWithNext 47 = .ok (.iconst 1, 1)) ?_
  refine g_iadd hF (by decide +kernel : decode cX1_swapWithNext 48 = .ok (.iadd, 1)) ?_
  refine g_iload_n hF (by decide +kernel : decode cX1_swapWithNext 49 = .ok (.iload_n 2, 1)) rfl ?_
  refine g_stC hF (n := 60) (by decide +kernel : decode cX1_swapWithNext 50 = .ok (.iastore, 1)) jrr41 rfl (by omega) ?_
  refine g_aload_n hF (by decide +kernel : decode cX1_swapWithNext 51 = .ok (.aload_n 0, 1)) rfl ?_
  refine g_getC hF lkX1_15 (by decide +kernel : decode cX1_swapWithNext 52 = .ok (.getfield 15, 3)) jok40 rfl rfl ?_
  refine g_iload_n hF (by decide +kernel : decode cX1_swapWithNext 55 = .ok (.iload_n 1, 1)) rfl ?_
  refine g_iconst hF (by decide +kernel : decode cX1_swapWithNext 56 = .ok (.iconst 1, 1)) ?_
  refine g_iadd hF (by decide +kernel : decode cX1_swapWithNext 57 = .ok (.iadd, 1)) ?_
  refine g_iload_n hF (by decide +kernel : decode cX1_swapWithNext 58 = .ok (.iload_n 3, 1)) rfl ?_
  refine g_stC hF (n := 60) (by decide +kernel : decode cX1_swapWithNext 59 = .ok (.iastore, 1)) jrr42 rfl (by omega) ?_
  refine g_return hF hQ (by decide +kernel : decode cX1_swapWithNext 60 = .ok (.return_, 1)) ?_
  exact ⟨rfl, swap_mem m i⟩
set_option maxHeartbeats 4000000 in
set_option maxRecDepth 100000 in
theorem c_X1_forgetFollowed (X : jX) (hX : jxok X) (m : jM) : Con X yX1_forgetFollowed cX1_forgetFollowed 2 none 1 [vR 2 40] m (fun o m' => o = none ∧ m' = mrow m 43 (fun _ => 0)) := by
  refine Con.of hX (by decide) (Nat.le_of_ble_eq_true rfl) (fun F hF hQ => ?_)
  refine g_iconst hF (by decide +kernel : decode cX1_forgetFollowed 0 = .ok (.iconst 0, 1)) ?_
  refine g_istore_n hF (by decide +kernel : decode cX1_forgetFollowed 1 = .ok (.istore_n 1, 1)) (by decide) ?_
  have loop : ∀ (n i : Nat) (mm : jM), i ≤ 257 → 258 ≤ i + n → mm = mrow m 43 (upto (fun _ => 0) (m 43) i) → jG F X mm 2 [(0, vR 2 40), (1, vI i)] [] := by
    intro n
    induction n with
    | zero => intro i mm h1 h2; exact absurd h2 (by omega)
    | succ n ih =>
      intro i mm h1 h2 hmm
      obtain rfl := hmm.symm
      refine g_iload_n hF (by decide +kernel : decode cX1_forgetFollowed 2 = .ok (.iload_n 1, 1)) rfl ?_
      refine g_sipush hF (by decide +kernel : decode cX1_forgetFollowed 3 = .ok (.sipush 257, 3)) (by decide) ?_
      refine g_icmp_ge hF (tgt := 22) (by decide +kernel : decode cX1_forgetFollowed 6 = .ok (.if_icmp .ge 16, 3)) (by decide) (by omega) (by omega) (fun c6 => ?_) (fun c6 => ?_)
      · skip
        obtain rfl : i = 257 := by omega
        refine g_eqv (m' := mrow m 43 (fun _ => 0)) (mrow_eqv (n := 257) rfl (fun z h0 h1 => upto_in h0 h1)) ?_
        refine g_return hF hQ (by decide +kernel : decode cX1_forgetFollowed 22 = .ok (.return_, 1)) ?_
        exact ⟨rfl, rfl⟩
      · skip
        refine g_aload_n hF (by decide +kernel : decode cX1_forgetFollowed 9 = .ok (.aload_n 0, 1)) rfl ?_
        refine g_getC hF lkX1_18 (by decide +kernel : decode cX1_forgetFollowed 10 = .ok (.getfield 18, 3)) jok40 rfl rfl ?_
        refine g_iload_n hF (by decide +kernel : decode cX1_forgetFollowed 13 = .ok (.iload_n 1, 1)) rfl ?_
        refine g_iconst hF (by decide +kernel : decode cX1_forgetFollowed 14 = .ok (.iconst 0, 1)) ?_
        refine g_bastore hF (by decide +kernel : decode cX1_forgetFollowed 15 = .ok (.bastore, 1)) (by omega) (by omega) ?_
        refine g_iinc hF (by decide +kernel : decode cX1_forgetFollowed 16 = .ok (.iinc 1 1, 3)) rfl (by decide) ?_
        refine g_goto hF (tgt := 2) (by decide +kernel : decode cX1_forgetFollowed 19 = .ok (.goto (-17), 3)) (by decide) ?_
        exact ih (i + 1) _ (by omega) (by omega) (by rw [mset_row, mrow_mrow, mrow_at]; exact mrow_ext (upto_put (g := fun _ => 0) rfl))
  exact loop 258 0 _ (by omega) (by omega) (by rw [show ((0 : Nat) : Int) = 0 from rfl, upto_0, mrow_self])
set_option maxHeartbeats 4000000 in
set_option maxRecDepth 100000 in
theorem c_X1_isLast (X : jX) (hX : jxok X) (i : Int) (w : Nat) (m : jM) (hw : rwok m w) (hi : 0 ≤ i ∧ i < w) (hf : ∀ z : Int, 0 ≤ z → z < 257 → (m 43 z = 0 ∨ m 43 z = 1)) : Con X yX1_isLast cX1_isLast 3 (some .boolean) 1 [vR 2 40, vI i] m (fun o m' => o = some (vI (if m 43 (m 41 i + 1) = 0 then 1 else 0)) ∧ m' = mset m 43 (m 41 i + 1) 1) := by
  refine Con.of hX (by decide) (Nat.le_of_ble_eq_true rfl) (fun F hF hQ => ?_)
  have hb := hw.2.1
  have hk := (hw.2.2 i hi.1 hi.2).1
  have hf1 := hf (m 41 i + 1) (by omega) (by omega)
  refine g_aload_n hF (by decide +kernel : decode cX1_isLast 0 = .ok (.aload_n 0, 1)) rfl ?_
  refine g_getC hF lkX1_9 (by decide +kernel : decode cX1_isLast 1 = .ok (.getfield 9, 3)) jok40 rfl rfl ?_
  refine g_iload_n hF (by decide +kernel : decode cX1_isLast 4 = .ok (.iload_n 1, 1)) rfl ?_
  refine g_ldC hF (n := 60) (by decide +kernel : decode cX1_isLast 5 = .ok (.iaload, 1)) jrr41 rfl (by omega) ?_
  refine g_iconst hF (by decide +kernel : decode cX1_isLast 6 = .ok (.iconst 1, 1)) ?_
  refine g_iadd hF (by decide +kernel : decode cX1_isLast 7 = .ok (.iadd, 1)) ?_
  refine g_istore_n hF (by decide +kernel : decode cX1_isLast 8 = .ok (.istore_n 2, 1)) (by decide) ?_
  refine g_iload_n hF (by decide +kernel : decode cX1_isLast 9 = .ok (.iload_n 2, 1)) rfl ?_
  refine g_if_lt hF (tgt := 29) (by decide +kernel : decode cX1_isLast 10 = .ok (.ifCond .lt 19, 3)) (by decide) (by omega) (fun c10 => ?_) (fun c10 => ?_)
  · skip
    exact absurd c10 (by omega)
  · skip
    refine g_iload_n hF (by decide +kernel : decode cX1_isLast 13 = .ok (.iload_n 2, 1)) rfl ?_
    refine g_sipush hF (by decide +kernel : decode cX1_isLast 14 = .ok (.sipush 257, 3)) (by decide) ?_
    refine g_icmp_ge hF (tgt := 29) (by decide +kernel : decode cX1_isLast 17 = .ok (.if_icmp .ge 12, 3)) (by decide) (by omega) (by omega) (fun c17 => ?_) (fun c17 => ?_)
    · skip
      exact absurd c17 (by omega)
    · skip
      refine g_aload_n hF (by decide +kernel : decode cX1_isLast 20 = .ok (.aload_n 0, 1)) rfl ?_
      refine g_getC hF lkX1_18 (by decide +kernel : decode cX1_isLast 21 = .ok (.getfield 18, 3)) jok40 rfl rfl ?_
      refine g_iload_n hF (by decide +kernel : decode cX1_isLast 24 = .ok (.iload_n 2, 1)) rfl ?_
      refine g_baload hF (by decide +kernel : decode cX1_isLast 25 = .ok (.baload, 1)) (by omega) ?_
      refine g_if_eq hF (tgt := 31) (by decide +kernel : decode cX1_isLast 26 = .ok (.ifCond .eq 5, 3)) (by decide) (by omega) (fun c26 => ?_) (fun c26 => ?_)
      · skip
        refine g_aload_n hF (by decide +kernel : decode cX1_isLast 31 = .ok (.aload_n 0, 1)) rfl ?_
        refine g_getC hF lkX1_18 (by decide +kernel : decode cX1_isLast 32 = .ok (.getfield 18, 3)) jok40 rfl rfl ?_
        refine g_iload_n hF (by decide +kernel : decode cX1_isLast 35 = .ok (.iload_n 2, 1)) rfl ?_
        refine g_iconst hF (by decide +kernel : decode cX1_isLast 36 = .ok (.iconst 1, 1)) ?_
        refine g_bastore hF (by decide +kernel : decode cX1_isLast 37 = .ok (.bastore, 1)) (by omega) (by omega) ?_
        refine g_iconst hF (by decide +kernel : decode cX1_isLast 38 = .ok (.iconst 1, 1)) ?_
        refine g_zreturn hF hQ (by decide +kernel : decode cX1_isLast 39 = .ok (.ireturn, 1)) (by first | exact Or.inl rfl | exact Or.inr rfl | omega) ?_
        exact ⟨by rw [if_pos c26], rfl⟩
      · skip
        refine g_iconst hF (by decide +kernel : decode cX1_isLast 29 = .ok (.iconst 0, 1)) ?_
        refine g_zreturn hF hQ (by decide +kernel : decode cX1_isLast 30 = .ok (.ireturn, 1)) (by first | exact Or.inl rfl | exact Or.inr rfl | omega) ?_
        exact ⟨by rw [if_neg c26], (mset_same (by omega)).symm⟩
set_option maxHeartbeats 4000000 in
set_option maxRecDepth 100000 in
theorem c_X1_doAll (X : jX) (hX : jxok X) (t : Nat) (ht : t < 19) (w : Nat) (m : jM) (hw : rwok m w) : Con X yX1_doAll cX1_doAll 3 none 4 [vR 2 40, vR 1 t] m (fun o m' => o = none ∧ m' = tset m t (playN (m 41) (m 42) w)) := by
  refine Con.of hX (by decide) (Nat.le_of_ble_eq_true rfl) (fun F hF hQ => ?_)
  refine g_aload_n hF (by decide +kernel : decode cX1_doAll 0 = .ok (.aload_n 1, 1)) rfl ?_
  refine g_callV hF lkX1_37 (c_X2_wipe X hX _ ht _) (by decide +kernel : decode cX1_doAll 1 = .ok (.invokevirtual 37, 3)) (by decide) rfl rfl rfl rfl ht (Nat.le_of_ble_eq_true rfl) (fun v1 m1 h1 => ?_)
  obtain ⟨rfl, e1⟩ := h1
  obtain rfl := e1.symm
  refine g_iconst hF (by decide +kernel : decode cX1_doAll 4 = .ok (.iconst 0, 1)) ?_
  refine g_istore_n hF (by decide +kernel : decode cX1_doAll 5 = .ok (.istore_n 2, 1)) (by decide) ?_
  have loop : ∀ (n i : Nat) (mm : jM), i ≤ w → w + 1 ≤ i + n → mm = tset m t (playN (m 41) (m 42) i) → jG F X mm 6 [(0, vR 2 40), (1, vR 1 t), (2, vI i)] [] := by
    intro n
    induction n with
    | zero => intro i mm h1 h2; exact absurd h2 (by omega)
    | succ n ih =>
      intro i mm h1 h2 hmm
      have e40 : mm 40 = m 40 := by rw [hmm]; exact tset_ne (by omega) (by omega)
      have e41 : mm 41 = m 41 := by rw [hmm]; exact tset_ne (by omega) (by omega)
      have e42 : mm 42 = m 42 := by rw [hmm]; exact tset_ne (by omega) (by omega)
      have htk : tok mm t := by rw [hmm]; exact tset_tok (playN_ok i (fun z h0 h3 => (hw.2.2 z h0 (by omega)).2))
      have hw1 := hw.1
      have hw2 := hw.2.1
      rw [← e40] at hw1
      refine g_iload_n hF (by decide +kernel : decode cX1_doAll 6 = .ok (.iload_n 2, 1)) rfl ?_
      refine g_aload_n hF (by decide +kernel : decode cX1_doAll 7 = .ok (.aload_n 0, 1)) rfl ?_
      refine g_getC hF lkX1_25 (by decide +kernel : decode cX1_doAll 8 = .ok (.getfield 25, 3)) jok40 rfl rfl ?_
      refine g_icmp_ge hF (tgt := 36) (by decide +kernel : decode cX1_doAll 11 = .ok (.if_icmp .ge 25, 3)) (by decide) (by omega) (by omega) (fun c11 => ?_) (fun c11 => ?_)
      · skip
        refine g_return hF hQ (by decide +kernel : decode cX1_doAll 36 = .ok (.return_, 1)) ?_
        exact ⟨rfl, by rw [hmm, show i = w by omega]⟩
      · skip
        have hkv := hw.2.2 i (by omega) (by omega)
        rw [← e41, ← e42] at hkv
        refine g_aload_n hF (by decide +kernel : decode cX1_doAll 14 = .ok (.aload_n 1, 1)) rfl ?_
        refine g_aload_n hF (by decide +kernel : decode cX1_doAll 15 = .ok (.aload_n 0, 1)) rfl ?_
        refine g_getC hF lkX1_9 (by decide +kernel : decode cX1_doAll 16 = .ok (.getfield 9, 3)) jok40 rfl rfl ?_
        refine g_iload_n hF (by decide +kernel : decode cX1_doAll 19 = .ok (.iload_n 2, 1)) rfl ?_
        refine g_ldC hF (n := 60) (by decide +kernel : decode cX1_doAll 20 = .ok (.iaload, 1)) jrr41 rfl (by omega) ?_
        refine g_aload_n hF (by decide +kernel : decode cX1_doAll 21 = .ok (.aload_n 0, 1)) rfl ?_
        refine g_getC hF lkX1_15 (by decide +kernel : decode cX1_doAll 22 = .ok (.getfield 15, 3)) jok40 rfl rfl ?_
        refine g_iload_n hF (by decide +kernel : decode cX1_doAll 25 = .ok (.iload_n 2, 1)) rfl ?_
        refine g_ldC hF (n := 60) (by decide +kernel : decode cX1_doAll 26 = .ok (.iaload, 1)) jrr42 rfl (by omega) ?_
        refine g_callV hF lkX1_42 (c_X2_mark X hX _ ht _ _ (by omega) (by omega) _ (by assumption)) (by decide +kernel : decode cX1_doAll 27 = .ok (.invokevirtual 42, 3)) (by decide) rfl rfl rfl rfl ht (Nat.le_of_ble_eq_true rfl) (fun v27 m27 h27 => ?_)
        obtain ⟨rfl, e27⟩ := h27
        obtain rfl := e27.symm
        refine g_iinc hF (by decide +kernel : decode cX1_doAll 30 = .ok (.iinc 2 1, 3)) rfl (by decide) ?_
        refine g_goto hF (tgt := 6) (by decide +kernel : decode cX1_doAll 33 = .ok (.goto (-27), 3)) (by decide) ?_
        exact ih (i + 1) _ (by omega) (by omega) (by rw [hmm] at e41 e42 ⊢; rw [tset_tset, tset_at, playN_s, e41, e42])
  exact loop (w + 1) 0 _ (by omega) (by omega) (by rw [playN_0])
set_option maxHeartbeats 4000000 in
set_option maxRecDepth 100000 in
theorem c_X1_addTo (X : jX) (hX : jxok X) (s : Int) (w : Nat) (m : jM) (hw : rwok m w) : Con X yX1_addTo cX1_addTo 6 (some .long) 1 [vR 2 40, vL s] m (fun o m' => o = some (vL (ckR (m 41) (m 42) w s w)) ∧ m' = m) := by
  refine Con.of hX (by decide) (Nat.le_of_ble_eq_true rfl) (fun F hF hQ => ?_)
  have hw1 := hw.1
  have hw2 := hw.2.1
  refine g_ldc2 hF klX1_61 (by decide +kernel : decode cX1_addTo 0 = .ok (.ldc2_w 61, 3)) ?_
  refine g_lload_n hF (by decide +kernel : decode cX1_addTo 3 = .ok (.lload_n 1, 1)) rfl ?_
  refine g_lmul hF (by decide +kernel : decode cX1_addTo 4 = .ok (.lmul, 1)) ?_
  refine g_aload_n hF (by decide +kernel : decode cX1_addTo 5 = .ok (.aload_n 0, 1)) rfl ?_
  refine g_getC hF lkX1_25 (by decide +kernel : decode cX1_addTo 6 = .ok (.getfield 25, 3)) jok40 rfl rfl ?_
  refine g_i2l hF (by decide +kernel : decode cX1_addTo 9 = .ok (.i2l, 1)) (by omega) ?_
  refine g_ladd hF (by decide +kernel : decode cX1_addTo 10 = .ok (.ladd, 1)) ?_
  refine g_lstore_n hF (by decide +kernel : decode cX1_addTo 11 = .ok (.lstore_n 3, 1)) (by decide) ?_
  refine g_iconst hF (by decide +kernel : decode cX1_addTo 12 = .ok (.iconst 0, 1)) ?_
  refine g_istore hF (by decide +kernel : decode cX1_addTo 13 = .ok (.istore 5, 2)) (by decide) ?_
  have loop : ∀ (n i : Nat) (a : Int), i ≤ w → w + 1 ≤ i + n → a = ckR (m 41) (m 42) w s i → jG F X m 15 [(0, vR 2 40), (1, vL s), (3, vL a), (5, vI i)] [] := by
    intro n
    induction n with
    | zero => intro i a h1 h2; exact absurd h2 (by omega)
    | succ n ih =>
      intro i a h1 h2 ha
      refine g_iload hF (by decide +kernel : decode cX1_addTo 15 = .ok (.iload 5, 2)) rfl ?_
      refine g_aload_n hF (by decide +kernel : decode cX1_addTo 17 = .ok (.aload_n 0, 1)) rfl ?_
      refine g_getC hF lkX1_25 (by decide +kernel : decode cX1_addTo 18 = .ok (.getfield 25, 3)) jok40 rfl rfl ?_
      refine g_icmp_ge hF (tgt := 60) (by decide +kernel : decode cX1_addTo 21 = .ok (.if_icmp .ge 39, 3)) (by decide) (by omega) (by omega) (fun c21 => ?_) (fun c21 => ?_)
      · skip
        refine g_lload_n hF (by decide +kernel : decode cX1_addTo 60 = .ok (.lload_n 3, 1)) rfl ?_
        refine g_lreturn hF hQ (by decide +kernel : decode cX1_addTo 61 = .ok (.lreturn, 1)) ?_
        exact ⟨by rw [ha, show i = w by omega], rfl⟩
      · skip
        have hkv := hw.2.2 i (by omega) (by omega)
        refine g_ldc2 hF klX1_61 (by decide +kernel : decode cX1_addTo 24 = .ok (.ldc2_w 61, 3)) ?_
        refine g_lload_n hF (by decide +kernel : decode cX1_addTo 27 = .ok (.lload_n 3, 1)) rfl ?_
        refine g_lmul hF (by decide +kernel : decode cX1_addTo 28 = .ok (.lmul, 1)) ?_
        refine g_aload_n hF (by decide +kernel : decode cX1_addTo 29 = .ok (.aload_n 0, 1)) rfl ?_
        refine g_getC hF lkX1_9 (by decide +kernel : decode cX1_addTo 30 = .ok (.getfield 9, 3)) jok40 rfl rfl ?_
        refine g_iload hF (by decide +kernel : decode cX1_addTo 33 = .ok (.iload 5, 2)) rfl ?_
        refine g_ldC hF (n := 60) (by decide +kernel : decode cX1_addTo 35 = .ok (.iaload, 1)) jrr41 rfl (by omega) ?_
        refine g_i2l hF (by decide +kernel : decode cX1_addTo 36 = .ok (.i2l, 1)) (by omega) ?_
        refine g_ladd hF (by decide +kernel : decode cX1_addTo 37 = .ok (.ladd, 1)) ?_
        refine g_lstore_n hF (by decide +kernel : decode cX1_addTo 38 = .ok (.lstore_n 3, 1)) (by decide) ?_
        refine g_ldc2 hF klX1_61 (by decide +kernel : decode cX1_addTo 39 = .ok (.ldc2_w 61, 3)) ?_
        refine g_lload_n hF (by decide +kernel : decode cX1_addTo 42 = .ok (.lload_n 3, 1)) rfl ?_
        refine g_lmul hF (by decide +kernel : decode cX1_addTo 43 = .ok (.lmul, 1)) ?_
        refine g_aload_n hF (by decide +kernel : decode cX1_addTo 44 = .ok (.aload_n 0, 1)) rfl ?_
        refine g_getC hF lkX1_15 (by decide +kernel : decode cX1_addTo 45 = .ok (.getfield 15, 3)) jok40 rfl rfl ?_
        refine g_iload hF (by decide +kernel : decode cX1_addTo 48 = .ok (.iload 5, 2)) rfl ?_
        refine g_ldC hF (n := 60) (by decide +kernel : decode cX1_addTo 50 = .ok (.iaload, 1)) jrr42 rfl (by omega) ?_
        refine g_i2l hF (by decide +kernel : decode cX1_addTo 51 = .ok (.i2l, 1)) (by omega) ?_
        refine g_ladd hF (by decide +kernel : decode cX1_addTo 52 = .ok (.ladd, 1)) ?_
        refine g_lstore_n hF (by decide +kernel : decode cX1_addTo 53 = .ok (.lstore_n 3, 1)) (by decide) ?_
        refine g_iinc hF (by decide +kernel : decode cX1_addTo 54 = .ok (.iinc 5 1, 3)) rfl (by decide) ?_
        refine g_goto hF (tgt := 15) (by decide +kernel : decode cX1_addTo 57 = .ok (.goto (-42), 3)) (by decide) ?_
        exact ih (i + 1) _ (by omega) (by omega) (by rw [ckR_s, ha])
  exact loop (w + 1) 0 _ (by omega) (by omega) (by rw [ckR_0, hw1])
set_option maxHeartbeats 4000000 in
set_option maxRecDepth 100000 in
theorem c_X1_mix (X : jX) (hX : jxok X) (s : Int) (hs : 0 ≤ s ∧ s < 2147483647) (w : Nat) (m : jM) (hw : rwok m w) : Con X yX1_mix cX1_mix 7 (some .int) 2 [vR 2 40, vI s] m (fun o m' => o = some (vI (stirN w s (m 41) (m 42) w).2.2.2) ∧ m' = mrow (mrow m 41 (stirN w s (m 41) (m 42) w).2.1) 42 (stirN w s (m 41) (m 42) w).2.2.1) := by
  refine Con.of hX (by decide) (Nat.le_of_ble_eq_true rfl) (fun F hF hQ => ?_)
  refine g_iload_n hF (by decide +kernel : decode cX1_mix 0 = .ok (.iload_n 1, 1)) rfl ?_
  refine g_i2l hF (by decide +kernel : decode cX1_mix 1 = .ok (.i2l, 1)) (by omega) ?_
  refine g_lstore_n hF (by decide +kernel : decode cX1_mix 2 = .ok (.lstore_n 2, 1)) (by decide) ?_
  refine g_iconst hF (by decide +kernel : decode cX1_mix 3 = .ok (.iconst 0, 1)) ?_
  refine g_istore hF (by decide +kernel : decode cX1_mix 4 = .ok (.istore 4, 2)) (by decide) ?_
  refine g_iconst hF (by decide +kernel : decode cX1_mix 6 = .ok (.iconst 0, 1)) ?_
  refine g_istore hF (by decide +kernel : decode cX1_mix 7 = .ok (.istore 5, 2)) (by decide) ?_
  have loop : ∀ (n i : Nat) (z c : Int) (K V : Int → Int) (mm : jM), i ≤ w → w + 1 ≤ i + n → stirN w s (m 41) (m 42) i = (z, K, V, c) → 0 ≤ z ∧ z < 2147483647 → kin K (-1) w → mm = mrow (mrow m 41 K) 42 V → jG F X mm 9 [(0, vR 2 40), (1, vI s), (2, vL z), (4, vI c), (5, vI i)] [] := by
    intro n
    induction n with
    | zero => intro i z c K V mm h1 h2; exact absurd h2 (by omega)
    | succ n ih =>
      intro i z c K V mm h1 h2 hq hz hK hmm
      have e40 : mm 40 = m 40 := by rw [hmm, mrow_ne (by decide), mrow_ne (by decide)]
      have e41 : mm 41 = K := by rw [hmm, mrow_ne (by decide), mrow_at]
      have hw1 := hw.1
      have hw2 := hw.2.1
      rw [← e40] at hw1
      have hz2 := tmod_b (a := 48271 * z) (b := 2147483647) (by omega) (by decide)
      have hz3 := tmod_b (a := (48271 * z).tmod 2147483647) (b := mm 40 0)
      refine g_iload hF (by decide +kernel : decode cX1_mix 9 = .ok (.iload 5, 2)) rfl ?_
      refine g_aload_n hF (by decide +kernel : decode cX1_mix 11 = .ok (.aload_n 0, 1)) rfl ?_
      refine g_getC hF lkX1_25 (by decide +kernel : decode cX1_mix 12 = .ok (.getfield 25, 3)) jok40 rfl rfl ?_
      refine g_icmp_ge hF (tgt := 83) (by decide +kernel : decode cX1_mix 15 = .ok (.if_icmp .ge 68, 3)) (by decide) (by omega) (by omega) (fun c15 => ?_) (fun c15 => ?_)
      · skip
        refine g_iload hF (by decide +kernel : decode cX1_mix 83 = .ok (.iload 4, 2)) rfl ?_
        refine g_ireturn hF hQ (by decide +kernel : decode cX1_mix 85 = .ok (.ireturn, 1)) ?_
        obtain rfl : i = w := by omega
        rw [hq]
        exact ⟨rfl, hmm⟩
      · skip
        have hz3 := hz3 (by omega) (by omega)
        refine g_ldc2 hF klX1_29 (by decide +kernel : decode cX1_mix 18 = .ok (.ldc2_w 29, 3)) ?_
        refine g_lload_n hF (by decide +kernel : decode cX1_mix 21 = .ok (.lload_n 2, 1)) rfl ?_
        refine g_lmul hF (by decide +kernel : decode cX1_mix 22 = .ok (.lmul, 1)) ?_
        refine g_ldc2 hF klX1_31 (by decide +kernel : decode cX1_mix 23 = .ok (.ldc2_w 31, 3)) ?_
        refine g_lrem hF (by decide +kernel : decode cX1_mix 26 = .ok (.lrem, 1)) (by omega) (by omega) ?_
        refine g_lstore_n hF (by decide +kernel : decode cX1_mix 27 = .ok (.lstore_n 2, 1)) (by decide) ?_
        refine g_lload_n hF (by decide +kernel : decode cX1_mix 28 = .ok (.lload_n 2, 1)) rfl ?_
        refine g_aload_n hF (by decide +kernel : decode cX1_mix 29 = .ok (.aload_n 0, 1)) rfl ?_
        refine g_getC hF lkX1_25 (by decide +kernel : decode cX1_mix 30 = .ok (.getfield 25, 3)) jok40 rfl rfl ?_
        refine g_i2l hF (by decide +kernel : decode cX1_mix 33 = .ok (.i2l, 1)) (by omega) ?_
        refine g_lrem hF (by decide +kernel : decode cX1_mix 34 = .ok (.lrem, 1)) (by omega) (by omega) ?_
        refine g_l2i hF (by decide +kernel : decode cX1_mix 35 = .ok (.l2i, 1)) ?_
        refine g_istore hF (by decide +kernel : decode cX1_mix 36 = .ok (.istore 6, 2)) (by decide) ?_
        refine g_iload hF (by decide +kernel : decode cX1_mix 38 = .ok (.iload 6, 2)) rfl ?_
        refine g_iconst hF (by decide +kernel : decode cX1_mix 40 = .ok (.iconst 1, 1)) ?_
        refine g_iadd hF (by decide +kernel : decode cX1_mix 41 = .ok (.iadd, 1)) ?_
        refine g_aload_n hF (by decide +kernel : decode cX1_mix 42 = .ok (.aload_n 0, 1)) rfl ?_
        refine g_getC hF lkX1_25 (by decide +kernel : decode cX1_mix 43 = .ok (.getfield 25, 3)) jok40 rfl rfl ?_
        refine g_icmp_ge hF (tgt := 77) (by decide +kernel : decode cX1_mix 46 = .ok (.if_icmp .ge 31, 3)) (by decide) (by omega) (by omega) (fun c46 => ?_) (fun c46 => ?_)
        · skip
          refine g_iinc hF (by decide +kernel : decode cX1_mix 77 = .ok (.iinc 5 1, 3)) rfl (by decide) ?_
          refine g_goto hF (tgt := 9) (by decide +kernel : decode cX1_mix 80 = .ok (.goto (-71), 3)) (by decide) ?_
          refine g_take 6 ?_
          exact ih (i + 1) _ _ K V _ (by omega) (by omega) (by rw [stirN_s, hq, stir_no rfl rfl (fun q => by rw [← hw1] at q; omega)]) hz2 hK hmm
        · skip
          have k1 := hK _ hz3.1 (by omega)
          have k2 := hK (((48271 * z).tmod 2147483647).tmod (mm 40 0) + 1) (by omega) (by omega)
          rw [← e41] at k1 k2
          refine g_aload_n hF (by decide +kernel : decode cX1_mix 49 = .ok (.aload_n 0, 1)) rfl ?_
          refine g_getC hF lkX1_9 (by decide +kernel : decode cX1_mix 50 = .ok (.getfield 9, 3)) jok40 rfl rfl ?_
          refine g_iload hF (by decide +kernel : decode cX1_mix 53 = .ok (.iload 6, 2)) rfl ?_
          refine g_ldC hF (n := 60) (by decide +kernel : decode cX1_mix 55 = .ok (.iaload, 1)) jrr41 rfl (by omega) ?_
          refine g_aload_n hF (by decide +kernel : decode cX1_mix 56 = .ok (.aload_n 0, 1)) rfl ?_
          refine g_getC hF lkX1_9 (by decide +kernel : decode cX1_mix 57 = .ok (.getfield 9, 3)) jok40 rfl rfl ?_
          refine g_iload hF (by decide +kernel : decode cX1_mix 60 = .ok (.iload 6, 2)) rfl ?_
          refine g_iconst hF (by decide +kernel : decode cX1_mix 62 = .ok (.iconst 1, 1)) ?_
          refine g_iadd hF (by decide +kernel : decode cX1_mix 63 = .ok (.iadd, 1)) ?_
          refine g_ldC hF (n := 60) (by decide +kernel : decode cX1_mix 64 = .ok (.iaload, 1)) jrr41 rfl (by omega) ?_
          refine g_icmp_eq hF (tgt := 77) (by decide +kernel : decode cX1_mix 65 = .ok (.if_icmp .eq 12, 3)) (by decide) (by omega) (by omega) (fun c65 => ?_) (fun c65 => ?_)
          · skip
            refine g_iinc hF (by decide +kernel : decode cX1_mix 77 = .ok (.iinc 5 1, 3)) rfl (by decide) ?_
            refine g_goto hF (tgt := 9) (by decide +kernel : decode cX1_mix 80 = .ok (.goto (-71), 3)) (by decide) ?_
            refine g_take 6 ?_
            exact ih (i + 1) _ _ K V _ (by omega) (by omega) (by rw [stirN_s, hq, stir_no rfl rfl (fun q => by rw [← hw1, ← e41] at q; exact q.2 c65)]) hz2 hK hmm
          · skip
            refine g_aload_n hF (by decide +kernel : decode cX1_mix 68 = .ok (.aload_n 0, 1)) rfl ?_
            refine g_iload hF (by decide +kernel : decode cX1_mix 69 = .ok (.iload 6, 2)) rfl ?_
            refine g_callV hF lkX1_33 (c_X1_swapWithNext X hX _ _ (by omega)) (by decide +kernel : decode cX1_mix 71 = .ok (.invokevirtual 33, 3)) (by decide) rfl rfl rfl rfl jok40 (Nat.le_of_ble_eq_true rfl) (fun v71 m71 h71 => ?_)
            obtain ⟨rfl, e71⟩ := h71
            obtain rfl := e71.symm
            refine g_iinc hF (by decide +kernel : decode cX1_mix 74 = .ok (.iinc 4 1, 3)) rfl (by decide) ?_
            refine g_iinc hF (by decide +kernel : decode cX1_mix 77 = .ok (.iinc 5 1, 3)) rfl (by decide) ?_
            refine g_goto hF (tgt := 9) (by decide +kernel : decode cX1_mix 80 = .ok (.goto (-71), 3)) (by decide) ?_
            refine g_take 6 ?_
            exact ih (i + 1) _ _ _ _ _ (by omega) (by omega) (by rw [stirN_s, hq, stir_go rfl rfl ⟨by rw [← hw1]; omega, by rw [← hw1, ← e41]; exact c65⟩]) hz2 (kin_swp hK (by rw [← hw1]; exact hz3.1) (by rw [← hw1]; omega)) (by rw [← hw1]; generalize ((48271 * z).tmod 2147483647).tmod (mm 40 0) = J; rw [hmm]; exact swap_rows)
  exact loop (w + 1) 0 s 0 (m 41) (m 42) _ (by omega) (by omega) (stirN_0 _ _ _ _) hs (fun z h0 h1 => (hw.2.2 z h0 h1).1) (by rw [mrow_self, mrow_self])
set_option maxHeartbeats 4000000 in
set_option maxRecDepth 100000 in
theorem c_X1_disturb (X : jX) (hX : jxok X) (t : Nat) (ht : t < 19) (m : jM) (hm : tok m t) : Con X yX1_disturb cX1_disturb 3 none 3 [vR 2 40, vR 1 t] m (fun o m' => o = none ∧ m' = mrow m 44 (dG (m t) (m 44) 32)) := by
  refine Con.of hX (by decide) (Nat.le_of_ble_eq_true rfl) (fun F hF hQ => ?_)
  refine g_iconst hF (by decide +kernel : decode cX1_disturb 0 = .ok (.iconst 0, 1)) ?_
  refine g_istore_n hF (by decide +kernel : decode cX1_disturb 1 = .ok (.istore_n 2, 1)) (by decide) ?_
  have loop : ∀ (n i : Nat) (mm : jM), i ≤ 32 → 33 ≤ i + n → mm = mrow (tset m t (dF (m t) i)) 44 (dG (m t) (m 44) i) → jG F X mm 2 [(0, vR 2 40), (1, vR 1 t), (2, vI i)] [] := by
    intro n
    induction n with
    | zero => intro i mm h1 h2; exact absurd h2 (by omega)
    | succ n ih =>
      intro i mm h1 h2 hmm
      have et : mm t = dF (m t) i := by rw [hmm, mrow_ne (by omega), tset_at]
      have htk : tok mm t := by rw [hmm]; unfold tok; rw [mrow_ne (by omega), mrow_ne (by omega)]; exact tset_tok (dF_ok hm.1 i)
      refine g_iload_n hF (by decide +kernel : decode cX1_disturb 2 = .ok (.iload_n 2, 1)) rfl ?_
      refine g_bipush hF (by decide +kernel : decode cX1_disturb 3 = .ok (.bipush 32, 2)) (by decide) ?_
      refine g_icmp_ge hF (tgt := 31) (by decide +kernel : decode cX1_disturb 5 = .ok (.if_icmp .ge 26, 3)) (by decide) (by omega) (by omega) (fun c5 => ?_) (fun c5 => ?_)
      · skip
        refine g_iconst hF (by decide +kernel : decode cX1_disturb 31 = .ok (.iconst 0, 1)) ?_
        refine g_istore_n hF (by decide +kernel : decode cX1_disturb 32 = .ok (.istore_n 2, 1)) (by decide) ?_
        have loop2 : ∀ (n i : Nat) (mm : jM), i ≤ 32 → 33 ≤ i + n → mm = mrow (tset m t (dF2 (m t) i)) 44 (dG (m t) (m 44) 32) → jG F X mm 33 [(0, vR 2 40), (1, vR 1 t), (2, vI i)] [] := by
          intro n
          induction n with
          | zero => intro i mm h1 h2; exact absurd h2 (by omega)
          | succ n ih =>
            intro i mm h1 h2 hmm
            have et : mm t = dF2 (m t) i := by rw [hmm, mrow_ne (by omega), tset_at]
            have e44 : mm 44 = dG (m t) (m 44) 32 := by rw [hmm, mrow_at]
            have htk : tok mm t := by rw [hmm]; unfold tok; rw [mrow_ne (by omega), mrow_ne (by omega)]; exact tset_tok (dF2_ok hm.1 i)
            refine g_iload_n hF (by decide +kernel : decode cX1_disturb 33 = .ok (.iload_n 2, 1)) rfl ?_
            refine g_bipush hF (by decide +kernel : decode cX1_disturb 34 = .ok (.bipush 32, 2)) (by decide) ?_
            refine g_icmp_ge hF (tgt := 56) (by decide +kernel : decode cX1_disturb 36 = .ok (.if_icmp .ge 20, 3)) (by decide) (by omega) (by omega) (fun c36 => ?_) (fun c36 => ?_)
            · skip
              refine g_return hF hQ (by decide +kernel : decode cX1_disturb 56 = .ok (.return_, 1)) ?_
              exact ⟨rfl, by rw [hmm, show i = 32 by omega, show ((32 : Nat) : Int) = 32 from rfl, dF2_32, tset_self hm.2]⟩
            · skip
              refine g_aload_n hF (by decide +kernel : decode cX1_disturb 39 = .ok (.aload_n 1, 1)) rfl ?_
              refine g_iload_n hF (by decide +kernel : decode cX1_disturb 40 = .ok (.iload_n 2, 1)) rfl ?_
              refine g_aload_n hF (by decide +kernel : decode cX1_disturb 41 = .ok (.aload_n 0, 1)) rfl ?_
              refine g_getC hF lkX1_22 (by decide +kernel : decode cX1_disturb 42 = .ok (.getfield 22, 3)) jok40 rfl rfl ?_
              refine g_iload_n hF (by decide +kernel : decode cX1_disturb 45 = .ok (.iload_n 2, 1)) rfl ?_
              refine g_ldC hF (n := 32) (by decide +kernel : decode cX1_disturb 46 = .ok (.iaload, 1)) jrr44 rfl (by omega) ?_
              have hb : mm 44 i = m t ((i : Int) + 1) := by rw [e44]; exact if_pos ⟨by omega, by omega⟩
              have hb2 := hm.1 ((i : Int) + 1) (by omega) (by omega)
              refine g_callV hF lkX1_42 (c_X2_mark X hX _ ht _ _ (by omega) (by omega) _ (by assumption)) (by decide +kernel : decode cX1_disturb 47 = .ok (.invokevirtual 42, 3)) (by decide) rfl rfl rfl rfl ht (Nat.le_of_ble_eq_true rfl) (fun v47 m47 h47 => ?_)
              obtain ⟨rfl, e47⟩ := h47
              obtain rfl := e47.symm
              refine g_iinc hF (by decide +kernel : decode cX1_disturb 50 = .ok (.iinc 2 1, 3)) rfl (by decide) ?_
              refine g_goto hF (tgt := 33) (by decide +kernel : decode cX1_disturb 53 = .ok (.goto (-20), 3)) (by decide) ?_
              exact ih (i + 1) _ (by omega) (by omega) (by rw [hmm]; exact dist_2 ht (by omega) (by rw [← hmm, e44]; exact if_pos ⟨by omega, by omega⟩) rfl)
        exact loop2 33 0 _ (by omega) (by omega) (by rw [hmm, show i = 32 by omega, show ((32 : Nat) : Int) = 32 from rfl, dF_32]; rfl)
      · skip
        refine g_aload_n hF (by decide +kernel : decode cX1_disturb 8 = .ok (.aload_n 0, 1)) rfl ?_
        refine g_getC hF lkX1_22 (by decide +kernel : decode cX1_disturb 9 = .ok (.getfield 22, 3)) jok40 rfl rfl ?_
        refine g_iload_n hF (by decide +kernel : decode cX1_disturb 12 = .ok (.iload_n 2, 1)) rfl ?_
        refine g_aload_n hF (by decide +kernel : decode cX1_disturb 13 = .ok (.aload_n 1, 1)) rfl ?_
        refine g_iload_n hF (by decide +kernel : decode cX1_disturb 14 = .ok (.iload_n 2, 1)) rfl ?_
        refine g_callV hF lkX1_57 (c_X2_at X hX _ ht _ (by omega) _) (by decide +kernel : decode cX1_disturb 15 = .ok (.invokevirtual 57, 3)) (by decide) rfl rfl rfl rfl ht (Nat.le_of_ble_eq_true rfl) (fun v15 m15 h15 => ?_)
        obtain ⟨rfl, e15⟩ := h15
        obtain rfl := e15.symm
        refine g_stC hF (n := 32) (by decide +kernel : decode cX1_disturb 18 = .ok (.iastore, 1)) jrr44 rfl (by omega) ?_
        refine g_aload_n hF (by decide +kernel : decode cX1_disturb 19 = .ok (.aload_n 1, 1)) rfl ?_
        refine g_iload_n hF (by decide +kernel : decode cX1_disturb 20 = .ok (.iload_n 2, 1)) rfl ?_
        refine g_iconst hF (by decide +kernel : decode cX1_disturb 21 = .ok (.iconst (-1), 1)) ?_
        have htk2 : tok (mset mm 44 i (tat (mm t) i)) t := by unfold tok; rw [mset_ne (by omega), mset_ne (by omega)]; exact htk
        refine g_callV hF lkX1_42 (c_X2_mark X hX _ ht _ _ (by omega) (by omega) _ (by assumption)) (by decide +kernel : decode cX1_disturb 22 = .ok (.invokevirtual 42, 3)) (by decide) rfl rfl rfl rfl ht (Nat.le_of_ble_eq_true rfl) (fun v22 m22 h22 => ?_)
        obtain ⟨rfl, e22⟩ := h22
        obtain rfl := e22.symm
        refine g_iinc hF (by decide +kernel : decode cX1_disturb 25 = .ok (.iinc 2 1, 3)) rfl (by decide) ?_
        refine g_goto hF (tgt := 2) (by decide +kernel : decode cX1_disturb 28 = .ok (.goto (-26), 3)) (by decide) ?_
        exact ih (i + 1) _ (by omega) (by omega) (by rw [hmm]; exact dist_1 ht (by omega) (by rw [← hmm, et]; unfold tat dF; rw [if_pos ⟨by omega, by omega⟩, if_neg (by omega)]) rfl)
  exact loop 33 0 _ (by omega) (by omega) (by rw [show ((0 : Nat) : Int) = 0 from rfl, dF_0, dG_0, tset_self hm.2, mrow_self])
set_option maxHeartbeats 4000000 in
set_option maxRecDepth 100000 in
theorem c_X1_doLast (X : jX) (hX : jxok X) (t : Nat) (ht : t < 19) (b : Int) (hb : jr b) (w : Nat) (m : jM) (hw : rwok m w) : Con X yX1_doLast cX1_doLast 4 none 4 [vR 2 40, vR 1 t, vI b] m (fun o m' => o = none ∧ (∀ j : Nat, j ≠ t → j ≠ 19 + t → j ≠ 43 → j ≠ 44 → m' j = m j) ∧ tok m' t ∧ eqR (m' t) (playN (m 41) (m 42) w)) := by
  refine Con.of hX (by decide) (Nat.le_of_ble_eq_true rfl) (fun F hF hQ => ?_)
  have hw1 := hw.1
  have hw2 := hw.2.1
  refine g_aload_n hF (by decide +kernel : decode cX1_doLast 0 = .ok (.aload_n 1, 1)) rfl ?_
  refine g_callV hF lkX1_37 (c_X2_wipe X hX _ ht _) (by decide +kernel : decode cX1_doLast 1 = .ok (.invokevirtual 37, 3)) (by decide) rfl rfl rfl rfl ht (Nat.le_of_ble_eq_true rfl) (fun v1 m1 h1 => ?_)
  obtain ⟨rfl, e1⟩ := h1
  obtain rfl := e1.symm
  refine g_aload_n hF (by decide +kernel : decode cX1_doLast 4 = .ok (.aload_n 0, 1)) rfl ?_
  refine g_callV hF lkX1_46 (c_X1_forgetFollowed X hX _) (by decide +kernel : decode cX1_doLast 5 = .ok (.invokevirtual 46, 3)) (by decide) rfl rfl rfl rfl jok40 (Nat.le_of_ble_eq_true rfl) (fun v5 m5 h5 => ?_)
  obtain ⟨rfl, e5⟩ := h5
  obtain rfl := e5.symm
  refine g_aload_n hF (by decide +kernel : decode cX1_doLast 8 = .ok (.aload_n 0, 1)) rfl ?_
  refine g_getC hF lkX1_25 (by decide +kernel : decode cX1_doLast 9 = .ok (.getfield 25, 3)) jok40 rfl rfl ?_
  refine g_iconst hF (by decide +kernel : decode cX1_doLast 12 = .ok (.iconst 1, 1)) ?_
  refine g_isub hF (by decide +kernel : decode cX1_doLast 13 = .ok (.isub, 1)) ?_
  refine g_istore_n hF (by decide +kernel : decode cX1_doLast 14 = .ok (.istore_n 3, 1)) (by decide) ?_
  have loop : ∀ (n i : Nat) (k : Int) (mm : jM), i < n → i ≤ w → k = i - 1 → DL m mm w t i → jG F X mm 15 [(0, vR 2 40), (1, vR 1 t), (2, vI b), (3, vI k)] [] := by
    intro n
    induction n with
    | zero => intro i k mm h1; exact absurd h1 (by omega)
    | succ n ih =>
      intro i k mm h1 h2 hk hI
      have e40 : mm 40 = m 40 := hI.1 40 (by omega) (by omega) (by decide) (by decide)
      have e41 : mm 41 = m 41 := hI.1 41 (by omega) (by omega) (by decide) (by decide)
      have e42 : mm 42 = m 42 := hI.1 42 (by omega) (by omega) (by decide) (by decide)
      have hwm : rwok mm w := by unfold rwok; rw [e40, e41, e42]; exact hw
      refine g_iload_n hF (by decide +kernel : decode cX1_doLast 15 = .ok (.iload_n 3, 1)) rfl ?_
      refine g_if_lt hF (tgt := 58) (by decide +kernel : decode cX1_doLast 16 = .ok (.ifCond .lt 42, 3)) (by decide) (by omega) (fun c16 => ?_) (fun c16 => ?_)
      · skip
        refine g_return hF hQ (by decide +kernel : decode cX1_doLast 58 = .ok (.return_, 1)) ?_
        obtain rfl : i = 0 := by omega
        exact ⟨rfl, hI.1, hI.2.1, DL_end hI⟩
      · skip
        obtain ⟨j, rfl⟩ : ∃ j, i = j + 1 := ⟨i - 1, by omega⟩
        obtain rfl : k = (j : Int) := by omega
        have hkv := hw.2.2 j (by omega) (by omega)
        have hfl := hI.2.2.1.1
        have htk0 := hI.2.1
        refine g_aload_n hF (by decide +kernel : decode cX1_doLast 19 = .ok (.aload_n 0, 1)) rfl ?_
        refine g_iload_n hF (by decide +kernel : decode cX1_doLast 20 = .ok (.iload_n 3, 1)) rfl ?_
        refine g_callV hF lkX1_49 (c_X1_isLast X hX _ _ _ (by assumption) (by omega) (by assumption)) (by decide +kernel : decode cX1_doLast 21 = .ok (.invokevirtual 49, 3)) (by decide) rfl rfl rfl rfl jok40 (Nat.le_of_ble_eq_true rfl) (fun v21 m21 h21 => ?_)
        obtain ⟨rfl, e21⟩ := h21
        obtain rfl := e21.symm
        refine g_if_eq hF (tgt := 52) (by decide +kernel : decode cX1_doLast 24 = .ok (.ifCond .eq 28, 3)) (by decide) (by split <;> omega) (fun c24 => ?_) (fun c24 => ?_)
        · skip
          refine g_iinc hF (by decide +kernel : decode cX1_doLast 52 = .ok (.iinc 3 (-1), 3)) rfl (by decide) ?_
          refine g_goto hF (tgt := 15) (by decide +kernel : decode cX1_doLast 55 = .ok (.goto (-40), 3)) (by decide) ?_
          exact ih j _ _ (by omega) (by omega) (by omega) (DL_skip ht hI (by omega) (by rw [e41]) hkv.1 (fun q => by rw [if_pos q] at c24; omega))
        · skip
          have z24 : mm 43 (mm 41 j + 1) = 0 := Classical.byContradiction (fun q => c24 (if_neg q))
          have htk : tok (mset mm 43 (mm 41 j + 1) 1) t := by unfold tok; rw [mset_ne (by omega), mset_ne (by omega)]; exact htk0
          have f41 : mset mm 43 (mm 41 j + 1) 1 41 j = m 41 j := by rw [mset_ne (by decide), e41]
          have f42 : mset mm 43 (mm 41 j + 1) 1 42 j = m 42 j := by rw [mset_ne (by decide), e42]
          have f40 : mset mm 43 (mm 41 j + 1) 1 40 0 = m 40 0 := by rw [mset_ne (by decide), e40]
          refine g_iload_n hF (by decide +kernel : decode cX1_doLast 27 = .ok (.iload_n 2, 1)) rfl ?_
          refine g_if_eq hF (tgt := 36) (by decide +kernel : decode cX1_doLast 28 = .ok (.ifCond .eq 8, 3)) (by decide) (by omega) (fun c28 => ?_) (fun c28 => ?_)
          · skip
            refine g_aload_n hF (by decide +kernel : decode cX1_doLast 36 = .ok (.aload_n 1, 1)) rfl ?_
            refine g_aload_n hF (by decide +kernel : decode cX1_doLast 37 = .ok (.aload_n 0, 1)) rfl ?_
            refine g_getC hF lkX1_9 (by decide +kernel : decode cX1_doLast 38 = .ok (.getfield 9, 3)) jok40 rfl rfl ?_
            refine g_iload_n hF (by decide +kernel : decode cX1_doLast 41 = .ok (.iload_n 3, 1)) rfl ?_
            refine g_ldC hF (n := 60) (by decide +kernel : decode cX1_doLast 42 = .ok (.iaload, 1)) jrr41 rfl (by omega) ?_
            refine g_aload_n hF (by decide +kernel : decode cX1_doLast 43 = .ok (.aload_n 0, 1)) rfl ?_
            refine g_getC hF lkX1_15 (by decide +kernel : decode cX1_doLast 44 = .ok (.getfield 15, 3)) jok40 rfl rfl ?_
            refine g_iload_n hF (by decide +kernel : decode cX1_doLast 47 = .ok (.iload_n 3, 1)) rfl ?_
            refine g_ldC hF (n := 60) (by decide +kernel : decode cX1_doLast 48 = .ok (.iaload, 1)) jrr42 rfl (by omega) ?_
            refine g_callV hF lkX1_42 (c_X2_mark X hX _ ht _ _ (by omega) (by omega) _ (by assumption)) (by decide +kernel : decode cX1_doLast 49 = .ok (.invokevirtual 42, 3)) (by decide) rfl rfl rfl rfl ht (Nat.le_of_ble_eq_true rfl) (fun v49 m49 h49 => ?_)
            obtain ⟨rfl, e49⟩ := h49
            obtain rfl := e49.symm
            refine g_iinc hF (by decide +kernel : decode cX1_doLast 52 = .ok (.iinc 3 (-1), 3)) rfl (by decide) ?_
            refine g_goto hF (tgt := 15) (by decide +kernel : decode cX1_doLast 55 = .ok (.goto (-40), 3)) (by decide) ?_
            exact ih j _ _ (by omega) (by omega) (by omega) (DL_mark ht hI (by omega) (by rw [e41]) hkv.1 hkv.2 z24 (fun i _ => rfl))
          · skip
            refine g_aload_n hF (by decide +kernel : decode cX1_doLast 31 = .ok (.aload_n 0, 1)) rfl ?_
            refine g_aload_n hF (by decide +kernel : decode cX1_doLast 32 = .ok (.aload_n 1, 1)) rfl ?_
            refine g_callV hF lkX1_53 (c_X1_disturb X hX _ ht _ (by assumption)) (by decide +kernel : decode cX1_doLast 33 = .ok (.invokevirtual 53, 3)) (by decide) rfl rfl rfl rfl jok40 (Nat.le_of_ble_eq_true rfl) (fun v33 m33 h33 => ?_)
            obtain ⟨rfl, e33⟩ := h33
            have g33 : ∀ i : Nat, i ≠ 44 → m33 i = mset mm 43 (mm 41 j + 1) 1 i := fun i q => by rw [e33, mrow_ne q]
            have g41 : m33 41 j = m 41 j := by rw [g33 41 (by decide)]; exact f41
            have g42 : m33 42 j = m 42 j := by rw [g33 42 (by decide)]; exact f42
            have htk3 : tok m33 t := by unfold tok; rw [g33 t (by omega), g33 (19 + t) (by omega)]; exact htk
            refine g_aload_n hF (by decide +kernel : decode cX1_doLast 36 = .ok (.aload_n 1, 1)) rfl ?_
            refine g_aload_n hF (by decide +kernel : decode cX1_doLast 37 = .ok (.aload_n 0, 1)) rfl ?_
            refine g_getC hF lkX1_9 (by decide +kernel : decode cX1_doLast 38 = .ok (.getfield 9, 3)) jok40 rfl rfl ?_
            refine g_iload_n hF (by decide +kernel : decode cX1_doLast 41 = .ok (.iload_n 3, 1)) rfl ?_
            refine g_ldC hF (n := 60) (by decide +kernel : decode cX1_doLast 42 = .ok (.iaload, 1)) jrr41 rfl (by omega) ?_
            refine g_aload_n hF (by decide +kernel : decode cX1_doLast 43 = .ok (.aload_n 0, 1)) rfl ?_
            refine g_getC hF lkX1_15 (by decide +kernel : decode cX1_doLast 44 = .ok (.getfield 15, 3)) jok40 rfl rfl ?_
            refine g_iload_n hF (by decide +kernel : decode cX1_doLast 47 = .ok (.iload_n 3, 1)) rfl ?_
            refine g_ldC hF (n := 60) (by decide +kernel : decode cX1_doLast 48 = .ok (.iaload, 1)) jrr42 rfl (by omega) ?_
            refine g_callV hF lkX1_42 (c_X2_mark X hX _ ht _ _ (by omega) (by omega) _ (by assumption)) (by decide +kernel : decode cX1_doLast 49 = .ok (.invokevirtual 42, 3)) (by decide) rfl rfl rfl rfl ht (Nat.le_of_ble_eq_true rfl) (fun v49 m49 h49 => ?_)
            obtain ⟨rfl, e49⟩ := h49
            obtain rfl := e49.symm
            refine g_iinc hF (by decide +kernel : decode cX1_doLast 52 = .ok (.iinc 3 (-1), 3)) rfl (by decide) ?_
            refine g_goto hF (tgt := 15) (by decide +kernel : decode cX1_doLast 55 = .ok (.goto (-40), 3)) (by decide) ?_
            exact ih j _ _ (by omega) (by omega) (by omega) (DL_mark ht hI (by omega) (by rw [e41]) hkv.1 hkv.2 z24 g33)
  exact loop (w + 1) w _ _ (by omega) (by omega) (by rw [mrow_ne (by decide), tset_ne (by omega) (by omega), hw1]) (DL_init ht)
set_option maxHeartbeats 4000000 in
set_option maxRecDepth 100000 in
theorem c_X1_countLast (X : jX) (hX : jxok X) (w : Nat) (m : jM) (hw : rwok m w) : Con X yX1_countLast cX1_countLast 3 (some .int) 2 [vR 2 40] m (fun o m' => o = some (vI (lastCount (m 41) w)) ∧ ∀ j : Nat, j ≠ 43 → m' j = m j) := by
  refine Con.of hX (by decide) (Nat.le_of_ble_eq_true rfl) (fun F hF hQ => ?_)
  have hw1 := hw.1
  have hw2 := hw.2.1
  refine g_aload_n hF (by decide +kernel : decode cX1_countLast 0 = .ok (.aload_n 0, 1)) rfl ?_
  refine g_callV hF lkX1_46 (c_X1_forgetFollowed X hX _) (by decide +kernel : decode cX1_countLast 1 = .ok (.invokevirtual 46, 3)) (by decide) rfl rfl rfl rfl jok40 (Nat.le_of_ble_eq_true rfl) (fun v1 m1 h1 => ?_)
  obtain ⟨rfl, e1⟩ := h1
  obtain rfl := e1.symm
  refine g_iconst hF (by decide +kernel : decode cX1_countLast 4 = .ok (.iconst 0, 1)) ?_
  refine g_istore_n hF (by decide +kernel : decode cX1_countLast 5 = .ok (.istore_n 1, 1)) (by decide) ?_
  refine g_aload_n hF (by decide +kernel : decode cX1_countLast 6 = .ok (.aload_n 0, 1)) rfl ?_
  refine g_getC hF lkX1_25 (by decide +kernel : decode cX1_countLast 7 = .ok (.getfield 25, 3)) jok40 rfl rfl ?_
  refine g_iconst hF (by decide +kernel : decode cX1_countLast 10 = .ok (.iconst 1, 1)) ?_
  refine g_isub hF (by decide +kernel : decode cX1_countLast 11 = .ok (.isub, 1)) ?_
  refine g_istore_n hF (by decide +kernel : decode cX1_countLast 12 = .ok (.istore_n 2, 1)) (by decide) ?_
  have loop : ∀ (n i : Nat) (a k : Int) (mm : jM), i < n → i ≤ w → k = i - 1 → a = sumN (fun i => bI (isL (m 41) w i)) w - sumN (fun i => bI (isL (m 41) w i)) i → (∀ j : Nat, j ≠ 43 → mm j = m j) → FL m mm w i → jG F X mm 13 [(0, vR 2 40), (1, vI a), (2, vI k)] [] := by
    intro n
    induction n with
    | zero => intro i a k mm h1; exact absurd h1 (by omega)
    | succ n ih =>
      intro i a k mm h1 h2 hk ha hfr hI
      have e40 : mm 40 = m 40 := hfr 40 (by decide)
      have e41 : mm 41 = m 41 := hfr 41 (by decide)
      have e42 : mm 42 = m 42 := hfr 42 (by decide)
      have hwm : rwok mm w := by unfold rwok; rw [e40, e41, e42]; exact hw
      refine g_iload_n hF (by decide +kernel : decode cX1_countLast 13 = .ok (.iload_n 2, 1)) rfl ?_
      refine g_if_lt hF (tgt := 39) (by decide +kernel : decode cX1_countLast 14 = .ok (.ifCond .lt 25, 3)) (by decide) (by omega) (fun c14 => ?_) (fun c14 => ?_)
      · skip
        refine g_iload_n hF (by decide +kernel : decode cX1_countLast 39 = .ok (.iload_n 1, 1)) rfl ?_
        refine g_ireturn hF hQ (by decide +kernel : decode cX1_countLast 40 = .ok (.ireturn, 1)) ?_
        obtain rfl : i = 0 := by omega
        exact ⟨by rw [ha, sumN_0]; unfold lastCount; exact congrArg (fun q => some (vI q)) (by omega), hfr⟩
      · skip
        obtain ⟨j, rfl⟩ : ∃ j, i = j + 1 := ⟨i - 1, by omega⟩
        obtain rfl : k = (j : Int) := by omega
        have hkv := hw.2.2 j (by omega) (by omega)
        have hfl := hI.1
        refine g_iload_n hF (by decide +kernel : decode cX1_countLast 17 = .ok (.iload_n 1, 1)) rfl ?_
        refine g_aload_n hF (by decide +kernel : decode cX1_countLast 18 = .ok (.aload_n 0, 1)) rfl ?_
        refine g_iload_n hF (by decide +kernel : decode cX1_countLast 19 = .ok (.iload_n 2, 1)) rfl ?_
        refine g_callV hF lkX1_49 (c_X1_isLast X hX _ _ _ (by assumption) (by omega) (by assumption)) (by decide +kernel : decode cX1_countLast 20 = .ok (.invokevirtual 49, 3)) (by decide) rfl rfl rfl rfl jok40 (Nat.le_of_ble_eq_true rfl) (fun v20 m20 h20 => ?_)
        obtain ⟨rfl, e20⟩ := h20
        obtain rfl := e20.symm
        refine g_if_eq hF (tgt := 30) (by decide +kernel : decode cX1_countLast 23 = .ok (.ifCond .eq 7, 3)) (by decide) (by split <;> omega) (fun c23 => ?_) (fun c23 => ?_)
        · skip
          refine g_iconst hF (by decide +kernel : decode cX1_countLast 30 = .ok (.iconst 0, 1)) ?_
          refine g_iadd hF (by decide +kernel : decode cX1_countLast 31 = .ok (.iadd, 1)) ?_
          refine g_istore_n hF (by decide +kernel : decode cX1_countLast 32 = .ok (.istore_n 1, 1)) (by decide) ?_
          refine g_iinc hF (by decide +kernel : decode cX1_countLast 33 = .ok (.iinc 2 (-1), 3)) rfl (by decide) ?_
          refine g_goto hF (tgt := 13) (by decide +kernel : decode cX1_countLast 36 = .ok (.goto (-23), 3)) (by decide) ?_
          exact ih j _ _ _ (by omega) (by omega) (by omega) (by rw [ha, sumN_s, bI_f (fun q => by rw [if_pos ((FL_is hI hkv.1).mpr q |> fun r => by rw [e41]; exact r)] at c23; omega)]; omega) (fun i q => by rw [mset_ne q]; exact hfr i q) (FL_step hI (by omega) (by rw [e41]))
        · skip
          refine g_iconst hF (by decide +kernel : decode cX1_countLast 26 = .ok (.iconst 1, 1)) ?_
          refine g_goto hF (tgt := 31) (by decide +kernel : decode cX1_countLast 27 = .ok (.goto 4, 3)) (by decide) ?_
          refine g_iadd hF (by decide +kernel : decode cX1_countLast 31 = .ok (.iadd, 1)) ?_
          refine g_istore_n hF (by decide +kernel : decode cX1_countLast 32 = .ok (.istore_n 1, 1)) (by decide) ?_
          refine g_iinc hF (by decide +kernel : decode cX1_countLast 33 = .ok (.iinc 2 (-1), 3)) rfl (by decide) ?_
          refine g_goto hF (tgt := 13) (by decide +kernel : decode cX1_countLast 36 = .ok (.goto (-23), 3)) (by decide) ?_
          exact ih j _ _ _ (by omega) (by omega) (by omega) (by rw [ha, sumN_s, bI_t (by refine (FL_is hI hkv.1).mp ?_; rw [← e41]; exact Classical.byContradiction (fun q => c23 (if_neg q)))]; omega) (fun i q => by rw [mset_ne q]; exact hfr i q) (FL_step hI (by omega) (by rw [e41]))
  exact loop (w + 1) w 0 _ _ (by omega) (by omega) (by rw [mrow_ne (by decide), hw1]) (by omega) (fun i q => mrow_ne q) (FL_init (mrow_at _ _ _))

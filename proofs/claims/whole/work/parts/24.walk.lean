set_option maxHeartbeats 4000000 in
set_option maxRecDepth 100000 in
theorem c_X0_keep (X : jX) (hX : jxok X) (s : Int) (t : Nat) (ht : t < 19) (nx : Nat) (hnx : nx < 8) (m : jM) (h0 : m 45 0 = nx) (h1 : 0 ≤ m 45 1 ∧ m 45 1 ≤ 8) (hc : m (19 + t) 0 = cnt (m t)) : Con X yX0_keep cX0_keep 3 none 3 [vR 2 45, vI s, vR 1 t] m (fun o m' => o = none ∧ m' = keepM m s t nx) := by
  refine Con.of hX (by decide) (Nat.le_of_ble_eq_true rfl) (fun F hF hQ => ?_)
  refine g_aload_n hF (by decide +kernel : decode cX0_keep 0 = .ok (.aload_n 0, 1)) rfl ?_
  refine g_getC hF lkX0_11 (by decide +kernel : decode cX0_keep 1 = .ok (.getfield 11, 3)) jok45 rfl rfl ?_
  refine g_aload_n hF (by decide +kernel : decode cX0_keep 4 = .ok (.aload_n 0, 1)) rfl ?_
  refine g_getC hF lkX0_21 (by decide +kernel : decode cX0_keep 5 = .ok (.getfield 21, 3)) jok45 rfl rfl ?_
  refine g_aaload_46 hF (by decide +kernel : decode cX0_keep 8 = .ok (.aaload, 1)) (h0) hnx ?_
  refine g_aload_n hF (by decide +kernel : decode cX0_keep 9 = .ok (.aload_n 2, 1)) rfl ?_
  refine g_callV hF lkX0_29 (c_X2_become X hX _ (show 8 + nx < 19 by omega) _ ht _ (by assumption)) (by decide +kernel : decode cX0_keep 10 = .ok (.invokevirtual 29, 3)) (by decide) rfl rfl rfl rfl (show 8 + nx < 19 by omega) (Nat.le_of_ble_eq_true rfl) (fun v10 m10 h10 => ?_)
  obtain ⟨rfl, e10⟩ := h10
  have f45 : m10 45 = m 45 := by rw [e10]; exact tset_ne (by omega) (by omega)
  have f0 : m10 45 0 = nx := by rw [f45, h0]
  refine g_aload_n hF (by decide +kernel : decode cX0_keep 13 = .ok (.aload_n 0, 1)) rfl ?_
  refine g_getC hF lkX0_17 (by decide +kernel : decode cX0_keep 14 = .ok (.getfield 17, 3)) jok45 rfl rfl ?_
  refine g_aload_n hF (by decide +kernel : decode cX0_keep 17 = .ok (.aload_n 0, 1)) rfl ?_
  refine g_getC hF lkX0_21 (by decide +kernel : decode cX0_keep 18 = .ok (.getfield 21, 3)) jok45 rfl rfl ?_
  refine g_iload_n hF (by decide +kernel : decode cX0_keep 21 = .ok (.iload_n 1, 1)) rfl ?_
  refine g_stC hF (n := 8) (by decide +kernel : decode cX0_keep 22 = .ok (.iastore, 1)) jrr47 rfl (by omega) ?_
  refine g_aload_n hF (by decide +kernel : decode cX0_keep 23 = .ok (.aload_n 0, 1)) rfl ?_
  refine g_aload_n hF (by decide +kernel : decode cX0_keep 24 = .ok (.aload_n 0, 1)) rfl ?_
  refine g_getC hF lkX0_21 (by decide +kernel : decode cX0_keep 25 = .ok (.getfield 21, 3)) jok45 rfl rfl ?_
  refine g_iconst hF (by decide +kernel : decode cX0_keep 28 = .ok (.iconst 1, 1)) ?_
  refine g_iadd hF (by decide +kernel : decode cX0_keep 29 = .ok (.iadd, 1)) ?_
  refine g_bipush hF (by decide +kernel : decode cX0_keep 30 = .ok (.bipush 8, 2)) (by decide) ?_
  have g0 : mset m10 47 (m10 45 0) s 45 0 = nx := by rw [mset_ne (by decide), f0]
  refine g_irem hF (by decide +kernel : decode cX0_keep 32 = .ok (.irem, 1)) (by omega) (by omega) ?_
  refine g_putC hF lkPX0_21 (by decide +kernel : decode cX0_keep 33 = .ok (.putfield 21, 3)) jok45 rfl rfl (Or.inl rfl) ?_
  refine g_aload_n hF (by decide +kernel : decode cX0_keep 36 = .ok (.aload_n 0, 1)) rfl ?_
  refine g_aload_n hF (by decide +kernel : decode cX0_keep 37 = .ok (.aload_n 0, 1)) rfl ?_
  refine g_getC hF lkX0_25 (by decide +kernel : decode cX0_keep 38 = .ok (.getfield 25, 3)) jok45 rfl rfl ?_
  refine g_iconst hF (by decide +kernel : decode cX0_keep 41 = .ok (.iconst 1, 1)) ?_
  refine g_iadd hF (by decide +kernel : decode cX0_keep 42 = .ok (.iadd, 1)) ?_
  refine g_bipush hF (by decide +kernel : decode cX0_keep 43 = .ok (.bipush 8, 2)) (by decide) ?_
  have g1 : mset (mset m10 47 (m10 45 0) s) 45 0 ((mset m10 47 (m10 45 0) s 45 0 + 1).tmod 8) 45 1 = m 45 1 := by rw [mset_off (by decide), mset_ne (by decide), f45]
  refine g_min hF lkX0_33 (by decide +kernel : decode cX0_keep 45 = .ok (.invokestatic 33, 3)) (by decide) (by omega) (by omega) (Nat.le_of_ble_eq_true rfl) ?_
  refine g_putC hF lkPX0_25 (by decide +kernel : decode cX0_keep 48 = .ok (.putfield 25, 3)) jok45 rfl rfl (Or.inl rfl) ?_
  refine g_return hF hQ (by decide +kernel : decode cX0_keep 51 = .ok (.return_, 1)) ?_
  refine ⟨rfl, ?_⟩
  unfold keepM
  rw [g1, g0, f0, e10]
set_option maxHeartbeats 4000000 in
set_option maxRecDepth 100000 in
theorem c_X0_latest (X : jX) (hX : jxok X) (m : jM) (h0 : 0 ≤ m 45 0 ∧ m 45 0 < 8) : Con X yX0_latest cX0_latest 1 (some .int) 1 [vR 2 45] m (fun o m' => o = some (vI ((m 45 0 + 8 - 1).tmod 8)) ∧ m' = m) := by
  refine Con.of hX (by decide) (Nat.le_of_ble_eq_true rfl) (fun F hF hQ => ?_)
  refine g_aload_n hF (by decide +kernel : decode cX0_latest 0 = .ok (.aload_n 0, 1)) rfl ?_
  refine g_getC hF lkX0_21 (by decide +kernel : decode cX0_latest 1 = .ok (.getfield 21, 3)) jok45 rfl rfl ?_
  refine g_bipush hF (by decide +kernel : decode cX0_latest 4 = .ok (.bipush 8, 2)) (by decide) ?_
  refine g_iadd hF (by decide +kernel : decode cX0_latest 6 = .ok (.iadd, 1)) ?_
  refine g_iconst hF (by decide +kernel : decode cX0_latest 7 = .ok (.iconst 1, 1)) ?_
  refine g_isub hF (by decide +kernel : decode cX0_latest 8 = .ok (.isub, 1)) ?_
  refine g_bipush hF (by decide +kernel : decode cX0_latest 9 = .ok (.bipush 8, 2)) (by decide) ?_
  refine g_irem hF (by decide +kernel : decode cX0_latest 11 = .ok (.irem, 1)) (by omega) (by omega) ?_
  refine g_ireturn hF hQ (by decide +kernel : decode cX0_latest 12 = .ok (.ireturn, 1)) ?_
  exact ⟨rfl, rfl⟩
set_option maxHeartbeats 4000000 in
set_option maxRecDepth 100000 in
theorem c_X0_latestSlot (X : jX) (hX : jxok X) (m : jM) (h0 : 0 ≤ m 45 0 ∧ m 45 0 < 8) : Con X yX0_latestSlot cX0_latestSlot 1 (some .int) 2 [vR 2 45] m (fun o m' => o = some (vI (m 47 ((m 45 0 + 8 - 1).tmod 8))) ∧ m' = m) := by
  refine Con.of hX (by decide) (Nat.le_of_ble_eq_true rfl) (fun F hF hQ => ?_)
  refine g_aload_n hF (by decide +kernel : decode cX0_latestSlot 0 = .ok (.aload_n 0, 1)) rfl ?_
  refine g_getC hF lkX0_17 (by decide +kernel : decode cX0_latestSlot 1 = .ok (.getfield 17, 3)) jok45 rfl rfl ?_
  refine g_aload_n hF (by decide +kernel : decode cX0_latestSlot 4 = .ok (.aload_n 0, 1)) rfl ?_
  refine g_callV hF lkX0_39 (c_X0_latest X hX _ (by omega)) (by decide +kernel : decode cX0_latestSlot 5 = .ok (.invokevirtual 39, 3)) (by decide) rfl rfl rfl rfl jok45 (Nat.le_of_ble_eq_true rfl) (fun v5 m5 h5 => ?_)
  obtain ⟨rfl, e5⟩ := h5
  obtain rfl := e5.symm
  have hb := tmod_b (a := m 45 0 + 8 - 1) (b := 8) (by omega) (by decide)
  refine g_ldC hF (n := 8) (by decide +kernel : decode cX0_latestSlot 8 = .ok (.iaload, 1)) jrr47 rfl (by omega) ?_
  refine g_ireturn hF hQ (by decide +kernel : decode cX0_latestSlot 9 = .ok (.ireturn, 1)) ?_
  exact ⟨rfl, rfl⟩
set_option maxHeartbeats 4000000 in
set_option maxRecDepth 100000 in
theorem c_X0_giveBack (X : jX) (hX : jxok X) (t : Nat) (ht : t < 8) (l : Nat) (hl : l < 8) (m : jM) (h0 : 0 ≤ m 45 0 ∧ m 45 0 < 8) (hl2 : (m 45 0 + 8 - 1).tmod 8 = l) (h1 : 0 ≤ m 45 1 ∧ m 45 1 ≤ 8) (hc : m (19 + (8 + l)) 0 = cnt (m (8 + l))) : Con X yX0_giveBack cX0_giveBack 2 none 3 [vR 2 45, vR 1 t] m (fun o m' => o = none ∧ m' = backM m t l) := by
  refine Con.of hX (by decide) (Nat.le_of_ble_eq_true rfl) (fun F hF hQ => ?_)
  refine g_aload_n hF (by decide +kernel : decode cX0_giveBack 0 = .ok (.aload_n 0, 1)) rfl ?_
  refine g_aload_n hF (by decide +kernel : decode cX0_giveBack 1 = .ok (.aload_n 0, 1)) rfl ?_
  refine g_callV hF lkX0_39 (c_X0_latest X hX _ (by omega)) (by decide +kernel : decode cX0_giveBack 2 = .ok (.invokevirtual 39, 3)) (by decide) rfl rfl rfl rfl jok45 (Nat.le_of_ble_eq_true rfl) (fun v2 m2 h2 => ?_)
  obtain ⟨rfl, e2⟩ := h2
  obtain rfl := e2.symm
  refine g_putC hF lkPX0_21 (by decide +kernel : decode cX0_giveBack 5 = .ok (.putfield 21, 3)) jok45 rfl rfl (Or.inl rfl) ?_
  rw [hl2]
  have f0 : mset m 45 0 l 45 0 = l := mset_at _ _ _ _
  have fc : mset m 45 0 l (19 + (8 + l)) 0 = cnt (mset m 45 0 l (8 + l)) := by rw [mset_ne (by omega), mset_ne (by omega)]; exact hc
  refine g_aload_n hF (by decide +kernel : decode cX0_giveBack 8 = .ok (.aload_n 1, 1)) rfl ?_
  refine g_aload_n hF (by decide +kernel : decode cX0_giveBack 9 = .ok (.aload_n 0, 1)) rfl ?_
  refine g_getC hF lkX0_11 (by decide +kernel : decode cX0_giveBack 10 = .ok (.getfield 11, 3)) jok45 rfl rfl ?_
  refine g_aload_n hF (by decide +kernel : decode cX0_giveBack 13 = .ok (.aload_n 0, 1)) rfl ?_
  refine g_getC hF lkX0_21 (by decide +kernel : decode cX0_giveBack 14 = .ok (.getfield 21, 3)) jok45 rfl rfl ?_
  refine g_aaload_46 hF (by decide +kernel : decode cX0_giveBack 17 = .ok (.aaload, 1)) (f0) hl ?_
  refine g_callV hF lkX0_29 (c_X2_become X hX _ (show t < 19 by omega) _ (show 8 + l < 19 by omega) _ (by assumption)) (by decide +kernel : decode cX0_giveBack 18 = .ok (.invokevirtual 29, 3)) (by decide) rfl rfl rfl rfl (show t < 19 by omega) (Nat.le_of_ble_eq_true rfl) (fun v18 m18 h18 => ?_)
  obtain ⟨rfl, e18⟩ := h18
  refine g_aload_n hF (by decide +kernel : decode cX0_giveBack 21 = .ok (.aload_n 0, 1)) rfl ?_
  refine g_aload_n hF (by decide +kernel : decode cX0_giveBack 22 = .ok (.aload_n 0, 1)) rfl ?_
  refine g_getC hF lkX0_25 (by decide +kernel : decode cX0_giveBack 23 = .ok (.getfield 25, 3)) jok45 rfl rfl ?_
  refine g_iconst hF (by decide +kernel : decode cX0_giveBack 26 = .ok (.iconst 1, 1)) ?_
  refine g_isub hF (by decide +kernel : decode cX0_giveBack 27 = .ok (.isub, 1)) ?_
  refine g_iconst hF (by decide +kernel : decode cX0_giveBack 28 = .ok (.iconst 0, 1)) ?_
  have g1 : m18 45 1 = m 45 1 := by rw [e18, tset_ne (by omega) (by omega), mset_off (by decide)]
  refine g_max hF lkX0_43 (by decide +kernel : decode cX0_giveBack 29 = .ok (.invokestatic 43, 3)) (by decide) (by omega) (by omega) (Nat.le_of_ble_eq_true rfl) ?_
  refine g_putC hF lkPX0_25 (by decide +kernel : decode cX0_giveBack 32 = .ok (.putfield 25, 3)) jok45 rfl rfl (Or.inl rfl) ?_
  refine g_return hF hQ (by decide +kernel : decode cX0_giveBack 35 = .ok (.return_, 1)) ?_
  refine ⟨rfl, ?_⟩
  unfold backM
  rw [g1, e18, mset_ne (m := m) (j := 45) (i := 8 + l) (by omega)]
set_option maxHeartbeats 4000000 in
set_option maxRecDepth 100000 in
theorem c_X3_forget (X : jX) (hX : jxok X) (m : jM) : Con X yX3_forget cX3_forget 1 none 2 [vR 2 48] m (fun o m' => o = none ∧ m' = mrow m 49 (fun _ => 0)) := by
  refine Con.of hX (by decide) (Nat.le_of_ble_eq_true rfl) (fun F hF hQ => ?_)
  refine g_aload_n hF (by decide +kernel : decode cX3_forget 0 = .ok (.aload_n 0, 1)) rfl ?_
  refine g_getC hF lkX3_9 (by decide +kernel : decode cX3_forget 1 = .ok (.getfield 9, 3)) jok48 rfl rfl ?_
  refine g_iconst hF (by decide +kernel : decode cX3_forget 4 = .ok (.iconst 0, 1)) ?_
  refine g_callS hF lkX3_26 (c_fillC X hX _ jrr49 rfl _ _) (by decide +kernel : decode cX3_forget 5 = .ok (.invokestatic 26, 3)) (by decide) rfl rfl (Nat.le_of_ble_eq_true rfl) (fun v5 m5 h5 => ?_)
  obtain ⟨rfl, e5⟩ := h5
  obtain rfl := e5.symm
  refine g_return hF hQ (by decide +kernel : decode cX3_forget 8 = .ok (.return_, 1)) ?_
  exact ⟨rfl, rfl⟩
set_option maxHeartbeats 4000000 in
set_option maxRecDepth 100000 in
theorem c_X3_hasSeen (X : jX) (hX : jxok X) (k : Int) (hk : jr k) (m : jM) (hA : ain (m 49)) : Con X yX3_hasSeen cX3_hasSeen 2 (some .boolean) 2 [vR 2 48, vI k] m (fun o m' => o = some (vI (if (-1 ≤ k ∧ k ≤ 255) ∧ 0 < m 49 (k + 1) then 1 else 0)) ∧ m' = m) := by
  refine Con.of hX (by decide) (Nat.le_of_ble_eq_true rfl) (fun F hF hQ => ?_)
  refine g_iload_n hF (by decide +kernel : decode cX3_hasSeen 0 = .ok (.iload_n 1, 1)) rfl ?_
  refine g_callN hF lkX3_32 (c_X4_isNumber X hX _ (by omega) _) (by decide +kernel : decode cX3_hasSeen 1 = .ok (.invokestatic 32, 3)) (by decide) rfl rfl (Nat.le_of_ble_eq_true rfl) (fun v1 m1 h1 => ?_)
  obtain ⟨rfl, e1⟩ := h1
  obtain rfl := e1.symm
  refine g_if_eq hF (tgt := 22) (by decide +kernel : decode cX3_hasSeen 4 = .ok (.ifCond .eq 18, 3)) (by decide) (by omega) (fun c4 => ?_) (fun c4 => ?_)
  · skip
    have q4 := i01_f c4
    refine g_iconst hF (by decide +kernel : decode cX3_hasSeen 22 = .ok (.iconst 0, 1)) ?_
    refine g_zreturn hF hQ (by decide +kernel : decode cX3_hasSeen 23 = .ok (.ireturn, 1)) (by first | exact Or.inl rfl | exact Or.inr rfl | omega) ?_
    exact ⟨by rw [if_neg (fun q => q4 q.1)], rfl⟩
  · skip
    have q4 := i01_t c4
    have hb := hA (k + 1) (by omega) (by omega)
    refine g_aload_n hF (by decide +kernel : decode cX3_hasSeen 7 = .ok (.aload_n 0, 1)) rfl ?_
    refine g_getC hF lkX3_9 (by decide +kernel : decode cX3_hasSeen 8 = .ok (.getfield 9, 3)) jok48 rfl rfl ?_
    refine g_iload_n hF (by decide +kernel : decode cX3_hasSeen 11 = .ok (.iload_n 1, 1)) rfl ?_
    refine g_iconst hF (by decide +kernel : decode cX3_hasSeen 12 = .ok (.iconst 1, 1)) ?_
    refine g_iadd hF (by decide +kernel : decode cX3_hasSeen 13 = .ok (.iadd, 1)) ?_
    refine g_ldC hF (n := 257) (by decide +kernel : decode cX3_hasSeen 14 = .ok (.iaload, 1)) jrr49 rfl (by omega) ?_
    refine g_if_le hF (tgt := 22) (by decide +kernel : decode cX3_hasSeen 15 = .ok (.ifCond .le 7, 3)) (by decide) (by omega) (fun c15 => ?_) (fun c15 => ?_)
    · skip
      refine g_iconst hF (by decide +kernel : decode cX3_hasSeen 22 = .ok (.iconst 0, 1)) ?_
      refine g_zreturn hF hQ (by decide +kernel : decode cX3_hasSeen 23 = .ok (.ireturn, 1)) (by first | exact Or.inl rfl | exact Or.inr rfl | omega) ?_
      exact ⟨by rw [if_neg (fun q => by omega)], rfl⟩
    · skip
      refine g_iconst hF (by decide +kernel : decode cX3_hasSeen 18 = .ok (.iconst 1, 1)) ?_
      refine g_goto hF (tgt := 23) (by decide +kernel : decode cX3_hasSeen 19 = .ok (.goto 4, 3)) (by decide) ?_
      refine g_zreturn hF hQ (by decide +kernel : decode cX3_hasSeen 23 = .ok (.ireturn, 1)) (by first | exact Or.inl rfl | exact Or.inr rfl | omega) ?_
      exact ⟨by rw [if_pos ⟨q4, by omega⟩], rfl⟩
set_option maxHeartbeats 4000000 in
set_option maxRecDepth 100000 in
theorem c_X3_follow (X : jX) (hX : jxok X) (t : Nat) (ht : t < 19) (k : Int) (hk : jr k) (m : jM) (hm : rowok (m t)) (hA : ain (m 49)) : Con X yX3_follow cX3_follow 3 none 4 [vR 2 48, vR 1 t, vI k] m (fun o m' => o = none ∧ m' = wkR m (m t) k) := by
  refine Con.of hX (by decide) (Nat.le_of_ble_eq_true rfl) (fun F hF hQ => ?_)
  refine g_aload_n hF (by decide +kernel : decode cX3_follow 0 = .ok (.aload_n 0, 1)) rfl ?_
  refine g_iconst hF (by decide +kernel : decode cX3_follow 1 = .ok (.iconst 0, 1)) ?_
  refine g_putC hF lkPX3_15 (by decide +kernel : decode cX3_follow 2 = .ok (.putfield 15, 3)) jok48 rfl rfl (Or.inl rfl) ?_
  refine g_aload_n hF (by decide +kernel : decode cX3_follow 5 = .ok (.aload_n 0, 1)) rfl ?_
  refine g_iload_n hF (by decide +kernel : decode cX3_follow 6 = .ok (.iload_n 2, 1)) rfl ?_
  refine g_putC hF lkPX3_19 (by decide +kernel : decode cX3_follow 7 = .ok (.putfield 19, 3)) jok48 rfl rfl (Or.inl rfl) ?_
  have loop : ∀ (n i : Nat) (q : jWk) (mm : jM), i ≤ 257 → 258 ≤ i + n → wkN (m t) k (m 49) i = q → (∀ j : Nat, j < i → wgo (m t) (wkN (m t) k (m 49) j)) → jr q.1 → mm = wkM m i q → jG F X mm 10 [(0, vR 2 48), (1, vR 1 t), (2, vI k)] [] := by
    intro n
    induction n with
    | zero => intro i q mm h1 h2; exact absurd h2 (by omega)
    | succ n ih =>
      intro i q mm h1 h2 hq hgo hr hmm
      have e0 : mm 48 0 = i := by rw [hmm, wkM_48_0]
      have e1 : mm 48 1 = q.1 := by rw [hmm, wkM_48_1]
      have e49 : mm 49 = q.2 := by rw [hmm, wkM_49]
      have et : mm t = m t := by rw [hmm, wkM_ne (by omega) (by omega)]
      have htr : rowok (mm t) := by rw [et]; exact hm
      have hA1 : ain (mm 49) := by rw [e49, ← hq]; exact wkN_ain hA i h1
      refine g_aload_n hF (by decide +kernel : decode cX3_follow 10 = .ok (.aload_n 0, 1)) rfl ?_
      refine g_getC hF lkX3_15 (by decide +kernel : decode cX3_follow 11 = .ok (.getfield 15, 3)) jok48 rfl rfl ?_
      refine g_sipush hF (by decide +kernel : decode cX3_follow 14 = .ok (.sipush 257, 3)) (by decide) ?_
      refine g_icmp_ge hF (tgt := 82) (by decide +kernel : decode cX3_follow 17 = .ok (.if_icmp .ge 65, 3)) (by decide) (by omega) (by omega) (fun c17 => ?_) (fun c17 => ?_)
      · skip
        obtain rfl : i = 257 := by omega
        have hN : wkS (m t) k (m 49) = 257 := wkS_eq hgo (wkN_257 hgo)
        refine g_aload_n hF (by decide +kernel : decode cX3_follow 82 = .ok (.aload_n 0, 1)) rfl ?_
        refine g_aload_n hF (by decide +kernel : decode cX3_follow 83 = .ok (.aload_n 1, 1)) rfl ?_
        refine g_aload_n hF (by decide +kernel : decode cX3_follow 84 = .ok (.aload_n 0, 1)) rfl ?_
        refine g_getC hF lkX3_19 (by decide +kernel : decode cX3_follow 85 = .ok (.getfield 19, 3)) jok48 rfl rfl ?_
        refine g_callV hF lkX3_36 (c_X2_isKey X hX _ ht _ (by omega) _ (by assumption)) (by decide +kernel : decode cX3_follow 88 = .ok (.invokevirtual 36, 3)) (by decide) rfl rfl rfl rfl ht (Nat.le_of_ble_eq_true rfl) (fun v88 m88 h88 => ?_)
        obtain ⟨rfl, e88⟩ := h88
        obtain rfl := e88.symm
        refine g_putC hF lkPX3_22 (by decide +kernel : decode cX3_follow 91 = .ok (.putfield 22, 3)) jok48 rfl rfl (Or.inr ⟨rfl, by omega⟩) ?_
        refine g_return hF hQ (by decide +kernel : decode cX3_follow 94 = .ok (.return_, 1)) ?_
        refine ⟨rfl, ?_⟩
        rw [wkR_eq hN, hq, et, e1, hmm]
      · skip
        refine g_aload_n hF (by decide +kernel : decode cX3_follow 20 = .ok (.aload_n 1, 1)) rfl ?_
        refine g_aload_n hF (by decide +kernel : decode cX3_follow 21 = .ok (.aload_n 0, 1)) rfl ?_
        refine g_getC hF lkX3_19 (by decide +kernel : decode cX3_follow 22 = .ok (.getfield 19, 3)) jok48 rfl rfl ?_
        refine g_callV hF lkX3_36 (c_X2_isKey X hX _ ht _ (by omega) _ (by assumption)) (by decide +kernel : decode cX3_follow 25 = .ok (.invokevirtual 36, 3)) (by decide) rfl rfl rfl rfl ht (Nat.le_of_ble_eq_true rfl) (fun v25 m25 h25 => ?_)
        obtain ⟨rfl, e25⟩ := h25
        obtain rfl := e25.symm
        refine g_if_eq hF (tgt := 82) (by decide +kernel : decode cX3_follow 28 = .ok (.ifCond .eq 54, 3)) (by decide) (by split <;> omega) (fun c28 => ?_) (fun c28 => ?_)
        · skip
          have z28 : tat (m t) q.1 = -2 := by rw [← et, ← e1]; exact Classical.byContradiction (fun r => by rw [if_neg r] at c28; omega)
          have hN : wkS (m t) k (m 49) = i := wkS_eq hgo (by rw [hq]; exact fun r => r.1 z28)
          refine g_aload_n hF (by decide +kernel : decode cX3_follow 82 = .ok (.aload_n 0, 1)) rfl ?_
          refine g_aload_n hF (by decide +kernel : decode cX3_follow 83 = .ok (.aload_n 1, 1)) rfl ?_
          refine g_aload_n hF (by decide +kernel : decode cX3_follow 84 = .ok (.aload_n 0, 1)) rfl ?_
          refine g_getC hF lkX3_19 (by decide +kernel : decode cX3_follow 85 = .ok (.getfield 19, 3)) jok48 rfl rfl ?_
          refine g_callV hF lkX3_36 (c_X2_isKey X hX _ ht _ (by omega) _ (by assumption)) (by decide +kernel : decode cX3_follow 88 = .ok (.invokevirtual 36, 3)) (by decide) rfl rfl rfl rfl ht (Nat.le_of_ble_eq_true rfl) (fun v88 m88 h88 => ?_)
          obtain ⟨rfl, e88⟩ := h88
          obtain rfl := e88.symm
          refine g_putC hF lkPX3_22 (by decide +kernel : decode cX3_follow 91 = .ok (.putfield 22, 3)) jok48 rfl rfl (Or.inr ⟨rfl, by omega⟩) ?_
          refine g_return hF hQ (by decide +kernel : decode cX3_follow 94 = .ok (.return_, 1)) ?_
          refine ⟨rfl, ?_⟩
          rw [wkR_eq hN, hq, et, e1, hmm]
        · skip
          have z28 : ¬ tat (m t) q.1 = -2 := by rw [← et, ← e1]; exact fun r => c28 (if_pos r)
          have hn := tat_num z28
          refine g_aload_n hF (by decide +kernel : decode cX3_follow 31 = .ok (.aload_n 0, 1)) rfl ?_
          refine g_aload_n hF (by decide +kernel : decode cX3_follow 32 = .ok (.aload_n 0, 1)) rfl ?_
          refine g_getC hF lkX3_19 (by decide +kernel : decode cX3_follow 33 = .ok (.getfield 19, 3)) jok48 rfl rfl ?_
          refine g_callV hF lkX3_41 (c_X3_hasSeen X hX _ (by omega) _ (by assumption)) (by decide +kernel : decode cX3_follow 36 = .ok (.invokevirtual 41, 3)) (by decide) rfl rfl rfl rfl jok48 (Nat.le_of_ble_eq_true rfl) (fun v36 m36 h36 => ?_)
          obtain ⟨rfl, e36⟩ := h36
          obtain rfl := e36.symm
          refine g_if_ne hF (tgt := 82) (by decide +kernel : decode cX3_follow 39 = .ok (.ifCond .ne 43, 3)) (by decide) (by split <;> omega) (fun c39 => ?_) (fun c39 => ?_)
          · skip
            have z39 : 0 < q.2 (q.1 + 1) := by
              rw [← e1, ← e49]
              exact Classical.byContradiction (fun r => c39 (if_neg (fun w => r w.2)))
            have hN : wkS (m t) k (m 49) = i := wkS_eq hgo (by rw [hq]; exact fun r => by have := r.2; omega)
            refine g_aload_n hF (by decide +kernel : decode cX3_follow 82 = .ok (.aload_n 0, 1)) rfl ?_
            refine g_aload_n hF (by decide +kernel : decode cX3_follow 83 = .ok (.aload_n 1, 1)) rfl ?_
            refine g_aload_n hF (by decide +kernel : decode cX3_follow 84 = .ok (.aload_n 0, 1)) rfl ?_
            refine g_getC hF lkX3_19 (by decide +kernel : decode cX3_follow 85 = .ok (.getfield 19, 3)) jok48 rfl rfl ?_
            refine g_callV hF lkX3_36 (c_X2_isKey X hX _ ht _ (by omega) _ (by assumption)) (by decide +kernel : decode cX3_follow 88 = .ok (.invokevirtual 36, 3)) (by decide) rfl rfl rfl rfl ht (Nat.le_of_ble_eq_true rfl) (fun v88 m88 h88 => ?_)
            obtain ⟨rfl, e88⟩ := h88
            obtain rfl := e88.symm
            refine g_putC hF lkPX3_22 (by decide +kernel : decode cX3_follow 91 = .ok (.putfield 22, 3)) jok48 rfl rfl (Or.inr ⟨rfl, by omega⟩) ?_
            refine g_return hF hQ (by decide +kernel : decode cX3_follow 94 = .ok (.return_, 1)) ?_
            refine ⟨rfl, ?_⟩
            rw [wkR_eq hN, hq, et, e1, hmm]
          · skip
            have hg : wgo (m t) q := ⟨z28, by rw [← e1, ← e49]; exact Classical.byContradiction (fun r => by rw [if_pos ⟨by omega, by omega⟩] at c39; omega)⟩
            refine g_aload_n hF (by decide +kernel : decode cX3_follow 42 = .ok (.aload_n 0, 1)) rfl ?_
            refine g_dup hF (by decide +kernel : decode cX3_follow 43 = .ok (.dup, 1)) rfl ?_
            refine g_getC hF lkX3_15 (by decide +kernel : decode cX3_follow 44 = .ok (.getfield 15, 3)) jok48 rfl rfl ?_
            refine g_iconst hF (by decide +kernel : decode cX3_follow 47 = .ok (.iconst 1, 1)) ?_
            refine g_iadd hF (by decide +kernel : decode cX3_follow 48 = .ok (.iadd, 1)) ?_
            refine g_putC hF lkPX3_15 (by decide +kernel : decode cX3_follow 49 = .ok (.putfield 15, 3)) jok48 rfl rfl (Or.inl rfl) ?_
            refine g_aload_n hF (by decide +kernel : decode cX3_follow 52 = .ok (.aload_n 0, 1)) rfl ?_
            refine g_getC hF lkX3_9 (by decide +kernel : decode cX3_follow 53 = .ok (.getfield 9, 3)) jok48 rfl rfl ?_
            refine g_aload_n hF (by decide +kernel : decode cX3_follow 56 = .ok (.aload_n 0, 1)) rfl ?_
            refine g_getC hF lkX3_19 (by decide +kernel : decode cX3_follow 57 = .ok (.getfield 19, 3)) jok48 rfl rfl ?_
            refine g_iconst hF (by decide +kernel : decode cX3_follow 60 = .ok (.iconst 1, 1)) ?_
            refine g_iadd hF (by decide +kernel : decode cX3_follow 61 = .ok (.iadd, 1)) ?_
            refine g_aload_n hF (by decide +kernel : decode cX3_follow 62 = .ok (.aload_n 0, 1)) rfl ?_
            refine g_getC hF lkX3_15 (by decide +kernel : decode cX3_follow 63 = .ok (.getfield 15, 3)) jok48 rfl rfl ?_
            have g1 : mset mm 48 0 (mm 48 0 + 1) 48 1 = q.1 := by rw [mset_off (by decide), e1]
            refine g_stC hF (n := 257) (by decide +kernel : decode cX3_follow 66 = .ok (.iastore, 1)) jrr49 rfl (by omega) ?_
            refine g_aload_n hF (by decide +kernel : decode cX3_follow 67 = .ok (.aload_n 0, 1)) rfl ?_
            refine g_aload_n hF (by decide +kernel : decode cX3_follow 68 = .ok (.aload_n 1, 1)) rfl ?_
            refine g_aload_n hF (by decide +kernel : decode cX3_follow 69 = .ok (.aload_n 0, 1)) rfl ?_
            refine g_getC hF lkX3_19 (by decide +kernel : decode cX3_follow 70 = .ok (.getfield 19, 3)) jok48 rfl rfl ?_
            have g2 : mset (mset mm 48 0 (mm 48 0 + 1)) 49 (mset mm 48 0 (mm 48 0 + 1) 48 1 + 1) (mset mm 48 0 (mm 48 0 + 1) 48 0) 48 1 = q.1 := by rw [mset_ne (by decide)]; exact g1
            refine g_callV hF lkX3_44 (c_X2_at X hX _ ht _ (by omega) _) (by decide +kernel : decode cX3_follow 73 = .ok (.invokevirtual 44, 3)) (by decide) rfl rfl rfl rfl ht (Nat.le_of_ble_eq_true rfl) (fun v73 m73 h73 => ?_)
            obtain ⟨rfl, e73⟩ := h73
            obtain rfl := e73.symm
            refine g_putC hF lkPX3_19 (by decide +kernel : decode cX3_follow 76 = .ok (.putfield 19, 3)) jok48 rfl rfl (Or.inl rfl) ?_
            refine g_goto hF (tgt := 10) (by decide +kernel : decode cX3_follow 79 = .ok (.goto (-69), 3)) (by decide) ?_
            exact ih (i + 1) _ _ (by omega) (by omega) rfl (fun j hj => by
              by_cases e : j = i
              · rw [e, hq]; exact hg
              · exact hgo j (by omega)) (by rw [wkN_s, hq]; have := tat_b hm q.1; show jr (tat (m t) q.1); omega) (by rw [hmm] at e1 et ⊢; exact wk_step hq _ _ (by rw [wkM_48_0]) (by rw [mset_off (by decide), e1]) _ (by rw [mset_ne (by omega), mset_ne (by omega), mset_ne (by decide), mset_off (by decide), et, e1]))
  exact loop 258 0 (k, m 49) _ (by omega) (by omega) (wkN_0 _ _ _) (fun j hj => absurd hj (by omega)) hk (by unfold wkM; rw [mrow_self]; rfl)
set_option maxHeartbeats 4000000 in
set_option maxRecDepth 100000 in
theorem c_X3_ringLength (X : jX) (hX : jxok X) (m : jM) (hA : ain (m 49)) (h1 : jr (m 48 1)) (h2 : m 48 2 = 0 ∨ m 48 2 = 1) : Con X yX3_ringLength cX3_ringLength 1 (some .int) 3 [vR 2 48] m (fun o m' => o = some (vI (if m 48 2 ≠ 0 ∧ (-1 ≤ m 48 1 ∧ m 48 1 ≤ 255) ∧ 0 < m 49 (m 48 1 + 1) then m 48 0 - m 49 (m 48 1 + 1) + 1 else 0)) ∧ m' = m) := by
  refine Con.of hX (by decide) (Nat.le_of_ble_eq_true rfl) (fun F hF hQ => ?_)
  refine g_aload_n hF (by decide +kernel : decode cX3_ringLength 0 = .ok (.aload_n 0, 1)) rfl ?_
  refine g_getC hF lkX3_22 (by decide +kernel : decode cX3_ringLength 1 = .ok (.getfield 22, 3)) jok48 rfl rfl ?_
  refine g_if_eq hF (tgt := 39) (by decide +kernel : decode cX3_ringLength 4 = .ok (.ifCond .eq 35, 3)) (by decide) (by omega) (fun c4 => ?_) (fun c4 => ?_)
  · skip
    refine g_iconst hF (by decide +kernel : decode cX3_ringLength 39 = .ok (.iconst 0, 1)) ?_
    refine g_ireturn hF hQ (by decide +kernel : decode cX3_ringLength 40 = .ok (.ireturn, 1)) ?_
    exact ⟨by rw [if_neg (fun q => q.1 c4)], rfl⟩
  · skip
    refine g_aload_n hF (by decide +kernel : decode cX3_ringLength 7 = .ok (.aload_n 0, 1)) rfl ?_
    refine g_aload_n hF (by decide +kernel : decode cX3_ringLength 8 = .ok (.aload_n 0, 1)) rfl ?_
    refine g_getC hF lkX3_19 (by decide +kernel : decode cX3_ringLength 9 = .ok (.getfield 19, 3)) jok48 rfl rfl ?_
    refine g_callV hF lkX3_41 (c_X3_hasSeen X hX _ (by omega) _ (by assumption)) (by decide +kernel : decode cX3_ringLength 12 = .ok (.invokevirtual 41, 3)) (by decide) rfl rfl rfl rfl jok48 (Nat.le_of_ble_eq_true rfl) (fun v12 m12 h12 => ?_)
    obtain ⟨rfl, e12⟩ := h12
    obtain rfl := e12.symm
    refine g_if_eq hF (tgt := 39) (by decide +kernel : decode cX3_ringLength 15 = .ok (.ifCond .eq 24, 3)) (by decide) (by split <;> omega) (fun c15 => ?_) (fun c15 => ?_)
    · skip
      have q15 := i01_f c15
      refine g_iconst hF (by decide +kernel : decode cX3_ringLength 39 = .ok (.iconst 0, 1)) ?_
      refine g_ireturn hF hQ (by decide +kernel : decode cX3_ringLength 40 = .ok (.ireturn, 1)) ?_
      exact ⟨by rw [if_neg (fun q => q15 q.2)], rfl⟩
    · skip
      have q15 := i01_t c15
      refine g_aload_n hF (by decide +kernel : decode cX3_ringLength 18 = .ok (.aload_n 0, 1)) rfl ?_
      refine g_getC hF lkX3_15 (by decide +kernel : decode cX3_ringLength 19 = .ok (.getfield 15, 3)) jok48 rfl rfl ?_
      refine g_aload_n hF (by decide +kernel : decode cX3_ringLength 22 = .ok (.aload_n 0, 1)) rfl ?_
      refine g_getC hF lkX3_9 (by decide +kernel : decode cX3_ringLength 23 = .ok (.getfield 9, 3)) jok48 rfl rfl ?_
      refine g_aload_n hF (by decide +kernel : decode cX3_ringLength 26 = .ok (.aload_n 0, 1)) rfl ?_
      refine g_getC hF lkX3_19 (by decide +kernel : decode cX3_ringLength 27 = .ok (.getfield 19, 3)) jok48 rfl rfl ?_
      refine g_iconst hF (by decide +kernel : decode cX3_ringLength 30 = .ok (.iconst 1, 1)) ?_
      refine g_iadd hF (by decide +kernel : decode cX3_ringLength 31 = .ok (.iadd, 1)) ?_
      refine g_ldC hF (n := 257) (by decide +kernel : decode cX3_ringLength 32 = .ok (.iaload, 1)) jrr49 rfl (by omega) ?_
      refine g_isub hF (by decide +kernel : decode cX3_ringLength 33 = .ok (.isub, 1)) ?_
      refine g_iconst hF (by decide +kernel : decode cX3_ringLength 34 = .ok (.iconst 1, 1)) ?_
      refine g_iadd hF (by decide +kernel : decode cX3_ringLength 35 = .ok (.iadd, 1)) ?_
      refine g_goto hF (tgt := 40) (by decide +kernel : decode cX3_ringLength 36 = .ok (.goto 4, 3)) (by decide) ?_
      refine g_ireturn hF hQ (by decide +kernel : decode cX3_ringLength 40 = .ok (.ireturn, 1)) ?_
      exact ⟨by rw [if_pos ⟨c4, q15⟩], rfl⟩

set_option maxHeartbeats 4000000 in
set_option maxRecDepth 100000 in
theorem c_X5_isInto (X : jX) (hX : jxok X) (s : Nat) (hs : s < 8) (m : jM) (hI : MI m) : Con X yX5_isInto cX5_isInto 2 (some .boolean) 8 [vR 2 51, vI s] m (fun o m' => o = some (vI (bI (inside (mR m s)))) ∧ MSm m m' ∧ m' 51 2 = 0) := by
  refine Con.of hX (by decide) (Nat.le_of_ble_eq_true rfl) (fun F hF hQ => ?_)
  have hr := hI.1 s hs
  have hbi := bI_c (inside (mR m s))
  refine g_aload_n hF (by decide +kernel : decode cX5_isInto 0 = .ok (.aload_n 0, 1)) rfl ?_
  refine g_iload_n hF (by decide +kernel : decode cX5_isInto 1 = .ok (.iload_n 1, 1)) rfl ?_
  refine g_callS hF lkX5_42 (y_X5_isSlot X hX _ (by omega) (by omega) _) (by decide +kernel : decode cX5_isInto 2 = .ok (.invokestatic 42, 3)) (by decide) rfl rfl (Nat.le_of_ble_eq_true rfl) (fun v2 m2 h2 => ?_)
  obtain ⟨rfl, e2⟩ := h2
  obtain rfl := e2.symm
  refine g_if_eq hF (tgt := 12) (by decide +kernel : decode cX5_isInto 5 = .ok (.ifCond .eq 7, 3)) (by decide) (by omega) (fun c5 => ?_) (fun c5 => ?_)
  · skip
    exact absurd c5 (by decide)
  · skip
    refine g_iconst hF (by decide +kernel : decode cX5_isInto 8 = .ok (.iconst 0, 1)) ?_
    refine g_goto hF (tgt := 13) (by decide +kernel : decode cX5_isInto 9 = .ok (.goto 4, 3)) (by decide) ?_
    refine g_callV hF lkX5_53 (y_X5_fails X hX _) (by decide +kernel : decode cX5_isInto 13 = .ok (.invokevirtual 53, 3)) (by decide) rfl rfl rfl rfl jok51 (Nat.le_of_ble_eq_true rfl) (fun v13 m13 h13 => ?_)
    obtain ⟨rfl, e13⟩ := h13
    have S0 : MSm m m13 := by rw [e13]; exact MSm_code m (Or.inl rfl) 0
    have I0 := MI_S hI S0
    have z0 : m13 51 2 = 0 := by rw [e13, mset_at]
    have r0 : ∀ t : Nat, mR m13 t = mR m t := fun t => mR_52 (S0.1 52 (by decide) (by decide) (by decide)) t
    refine g_if_ne hF (tgt := 31) (by decide +kernel : decode cX5_isInto 16 = .ok (.ifCond .ne 15, 3)) (by decide) (by omega) (fun c16 => ?_) (fun c16 => ?_)
    · skip
      exact absurd c16 (by decide)
    · skip
      have hm0 : rowok (mR m13 s) := by rw [r0]; exact hr
      refine g_aload_n hF (by decide +kernel : decode cX5_isInto 19 = .ok (.aload_n 0, 1)) rfl ?_
      refine g_iload_n hF (by decide +kernel : decode cX5_isInto 20 = .ok (.iload_n 1, 1)) rfl ?_
      refine g_callV hF lkX5_84 (c_X5_isIntoItself X hX _ (by omega) _ (by assumption)) (by decide +kernel : decode cX5_isInto 21 = .ok (.invokevirtual 84, 3)) (by decide) rfl rfl rfl rfl jok51 (Nat.le_of_ble_eq_true rfl) (fun v21 m21 h21 => ?_)
      obtain ⟨rfl, e21⟩ := h21
      obtain rfl := e21.symm
      rw [r0]
      refine g_if_eq hF (tgt := 31) (by decide +kernel : decode cX5_isInto 24 = .ok (.ifCond .eq 7, 3)) (by decide) (by omega) (fun c24 => ?_) (fun c24 => ?_)
      · skip
        refine g_iconst hF (by decide +kernel : decode cX5_isInto 31 = .ok (.iconst 0, 1)) ?_
        refine g_zreturn hF hQ (by decide +kernel : decode cX5_isInto 32 = .ok (.ireturn, 1)) (by first | exact Or.inl rfl | exact Or.inr rfl) ?_
        exact ⟨by rw [c24], S0, z0⟩
      · skip
        refine g_iconst hF (by decide +kernel : decode cX5_isInto 27 = .ok (.iconst 1, 1)) ?_
        refine g_goto hF (tgt := 32) (by decide +kernel : decode cX5_isInto 28 = .ok (.goto 4, 3)) (by decide) ?_
        refine g_zreturn hF hQ (by decide +kernel : decode cX5_isInto 32 = .ok (.ireturn, 1)) (by first | exact Or.inl rfl | exact Or.inr rfl) ?_
        exact ⟨by rw [hbi.resolve_left c24], S0, z0⟩
set_option maxHeartbeats 4000000 in
set_option maxRecDepth 100000 in
theorem n1_X5_isInto (X : jX) (hX : jxok X) (s : Int) (js : jr s) (m : jM) (h : ¬ (0 ≤ s ∧ s < 8)) : Con X yX5_isInto cX5_isInto 2 (some .boolean) 8 [vR 2 51, vI s] m (fun o m' => o = some (vI 0) ∧ m' = mset m 51 2 1) := by
  refine Con.of hX (by decide) (Nat.le_of_ble_eq_true rfl) (fun F hF hQ => ?_)
  refine g_aload_n hF (by decide +kernel : decode cX5_isInto 0 = .ok (.aload_n 0, 1)) rfl ?_
  refine g_iload_n hF (by decide +kernel : decode cX5_isInto 1 = .ok (.iload_n 1, 1)) rfl ?_
  refine g_callS hF lkX5_42 (n_X5_isSlot X hX _ (by omega) (by omega) _) (by decide +kernel : decode cX5_isInto 2 = .ok (.invokestatic 42, 3)) (by decide) rfl rfl (Nat.le_of_ble_eq_true rfl) (fun v2 m2 h2 => ?_)
  obtain ⟨rfl, e2⟩ := h2
  obtain rfl := e2.symm
  refine g_if_eq hF (tgt := 12) (by decide +kernel : decode cX5_isInto 5 = .ok (.ifCond .eq 7, 3)) (by decide) (by omega) (fun c5 => ?_) (fun c5 => ?_)
  · skip
    refine g_iconst hF (by decide +kernel : decode cX5_isInto 12 = .ok (.iconst 1, 1)) ?_
    refine g_callV hF lkX5_53 (n_X5_fails X hX _ (by decide) _) (by decide +kernel : decode cX5_isInto 13 = .ok (.invokevirtual 53, 3)) (by decide) rfl rfl rfl rfl jok51 (Nat.le_of_ble_eq_true rfl) (fun v13 m13 h13 => ?_)
    obtain ⟨rfl, e13⟩ := h13
    obtain rfl := e13.symm
    refine g_if_ne hF (tgt := 31) (by decide +kernel : decode cX5_isInto 16 = .ok (.ifCond .ne 15, 3)) (by decide) (by omega) (fun c16 => ?_) (fun c16 => ?_)
    · skip
      refine g_iconst hF (by decide +kernel : decode cX5_isInto 31 = .ok (.iconst 0, 1)) ?_
      refine g_zreturn hF hQ (by decide +kernel : decode cX5_isInto 32 = .ok (.ireturn, 1)) (by first | exact Or.inl rfl | exact Or.inr rfl | omega) ?_
      exact ⟨rfl, rfl⟩
    · skip
      exact absurd c16 (by decide)
  · skip
    exact absurd c5 (by decide)
set_option maxHeartbeats 4000000 in
set_option maxRecDepth 100000 in
theorem c_X5_fixed (X : jX) (hX : jxok X) (s : Nat) (hs : s < 8) (m : jM) (hI : MI m) : Con X yX5_fixed cX5_fixed 2 (some .int) 8 [vR 2 51, vI s] m (fun o m' => o = some (vI (selfN (mR m s))) ∧ MSm m m' ∧ m' 51 2 = 0) := by
  refine Con.of hX (by decide) (Nat.le_of_ble_eq_true rfl) (fun F hF hQ => ?_)
  have hr := hI.1 s hs
  refine g_aload_n hF (by decide +kernel : decode cX5_fixed 0 = .ok (.aload_n 0, 1)) rfl ?_
  refine g_iload_n hF (by decide +kernel : decode cX5_fixed 1 = .ok (.iload_n 1, 1)) rfl ?_
  refine g_callS hF lkX5_42 (y_X5_isSlot X hX _ (by omega) (by omega) _) (by decide +kernel : decode cX5_fixed 2 = .ok (.invokestatic 42, 3)) (by decide) rfl rfl (Nat.le_of_ble_eq_true rfl) (fun v2 m2 h2 => ?_)
  obtain ⟨rfl, e2⟩ := h2
  obtain rfl := e2.symm
  refine g_if_eq hF (tgt := 12) (by decide +kernel : decode cX5_fixed 5 = .ok (.ifCond .eq 7, 3)) (by decide) (by omega) (fun c5 => ?_) (fun c5 => ?_)
  · skip
    exact absurd c5 (by decide)
  · skip
    refine g_iconst hF (by decide +kernel : decode cX5_fixed 8 = .ok (.iconst 0, 1)) ?_
    refine g_goto hF (tgt := 13) (by decide +kernel : decode cX5_fixed 9 = .ok (.goto 4, 3)) (by decide) ?_
    refine g_callV hF lkX5_53 (y_X5_fails X hX _) (by decide +kernel : decode cX5_fixed 13 = .ok (.invokevirtual 53, 3)) (by decide) rfl rfl rfl rfl jok51 (Nat.le_of_ble_eq_true rfl) (fun v13 m13 h13 => ?_)
    obtain ⟨rfl, e13⟩ := h13
    have S0 : MSm m m13 := by rw [e13]; exact MSm_code m (Or.inl rfl) 0
    have I0 := MI_S hI S0
    have z0 : m13 51 2 = 0 := by rw [e13, mset_at]
    have r0 : ∀ t : Nat, mR m13 t = mR m t := fun t => mR_52 (S0.1 52 (by decide) (by decide) (by decide)) t
    refine g_if_eq hF (tgt := 23) (by decide +kernel : decode cX5_fixed 16 = .ok (.ifCond .eq 7, 3)) (by decide) (by omega) (fun c16 => ?_) (fun c16 => ?_)
    · skip
      have hm0 : rowok (mR m13 s) := by rw [r0]; exact hr
      refine g_aload_n hF (by decide +kernel : decode cX5_fixed 23 = .ok (.aload_n 0, 1)) rfl ?_
      refine g_iload_n hF (by decide +kernel : decode cX5_fixed 24 = .ok (.iload_n 1, 1)) rfl ?_
      refine g_callV hF lkX5_87 (c_X5_manyFixed X hX _ (by omega) _ (by assumption)) (by decide +kernel : decode cX5_fixed 25 = .ok (.invokevirtual 87, 3)) (by decide) rfl rfl rfl rfl jok51 (Nat.le_of_ble_eq_true rfl) (fun v25 m25 h25 => ?_)
      obtain ⟨rfl, e25⟩ := h25
      obtain rfl := e25.symm
      rw [r0]
      refine g_ireturn hF hQ (by decide +kernel : decode cX5_fixed 28 = .ok (.ireturn, 1)) ?_
      exact ⟨rfl, S0, z0⟩
    · skip
      exact absurd c16 (by decide)
set_option maxHeartbeats 4000000 in
set_option maxRecDepth 100000 in
theorem n1_X5_fixed (X : jX) (hX : jxok X) (s : Int) (js : jr s) (m : jM) (h : ¬ (0 ≤ s ∧ s < 8)) : Con X yX5_fixed cX5_fixed 2 (some .int) 8 [vR 2 51, vI s] m (fun o m' => o = some (vI 0) ∧ m' = mset m 51 2 1) := by
  refine Con.of hX (by decide) (Nat.le_of_ble_eq_true rfl) (fun F hF hQ => ?_)
  refine g_aload_n hF (by decide +kernel : decode cX5_fixed 0 = .ok (.aload_n 0, 1)) rfl ?_
  refine g_iload_n hF (by decide +kernel : decode cX5_fixed 1 = .ok (.iload_n 1, 1)) rfl ?_
  refine g_callS hF lkX5_42 (n_X5_isSlot X hX _ (by omega) (by omega) _) (by decide +kernel : decode cX5_fixed 2 = .ok (.invokestatic 42, 3)) (by decide) rfl rfl (Nat.le_of_ble_eq_true rfl) (fun v2 m2 h2 => ?_)
  obtain ⟨rfl, e2⟩ := h2
  obtain rfl := e2.symm
  refine g_if_eq hF (tgt := 12) (by decide +kernel : decode cX5_fixed 5 = .ok (.ifCond .eq 7, 3)) (by decide) (by omega) (fun c5 => ?_) (fun c5 => ?_)
  · skip
    refine g_iconst hF (by decide +kernel : decode cX5_fixed 12 = .ok (.iconst 1, 1)) ?_
    refine g_callV hF lkX5_53 (n_X5_fails X hX _ (by decide) _) (by decide +kernel : decode cX5_fixed 13 = .ok (.invokevirtual 53, 3)) (by decide) rfl rfl rfl rfl jok51 (Nat.le_of_ble_eq_true rfl) (fun v13 m13 h13 => ?_)
    obtain ⟨rfl, e13⟩ := h13
    obtain rfl := e13.symm
    refine g_if_eq hF (tgt := 23) (by decide +kernel : decode cX5_fixed 16 = .ok (.ifCond .eq 7, 3)) (by decide) (by omega) (fun c16 => ?_) (fun c16 => ?_)
    · skip
      exact absurd c16 (by decide)
    · skip
      refine g_iconst hF (by decide +kernel : decode cX5_fixed 19 = .ok (.iconst 0, 1)) ?_
      refine g_goto hF (tgt := 28) (by decide +kernel : decode cX5_fixed 20 = .ok (.goto 8, 3)) (by decide) ?_
      refine g_ireturn hF hQ (by decide +kernel : decode cX5_fixed 28 = .ok (.ireturn, 1)) ?_
      exact ⟨rfl, rfl⟩
  · skip
    exact absurd c5 (by decide)
set_option maxHeartbeats 4000000 in
set_option maxRecDepth 100000 in
theorem c_X5_steps (X : jX) (hX : jxok X) (s : Nat) (hs : s < 8) (k : Int) (hk : num k) (m : jM) (hI : MI m) (h : ¬ tat (mR m s) k = -2) : Con X yX5_steps cX5_steps 3 (some .int) 8 [vR 2 51, vI s, vI k] m (fun o m' => o = some (vI ((per (mR m s) k : Int))) ∧ MSm m m' ∧ m' 51 2 = 0) := by
  refine Con.of hX (by decide) (Nat.le_of_ble_eq_true rfl) (fun F hF hQ => ?_)
  have hr := hI.1 s hs
  have hk2 : -1 ≤ k ∧ k ≤ 255 := hk
  refine g_aload_n hF (by decide +kernel : decode cX5_steps 0 = .ok (.aload_n 0, 1)) rfl ?_
  refine g_aload_n hF (by decide +kernel : decode cX5_steps 1 = .ok (.aload_n 0, 1)) rfl ?_
  refine g_iload_n hF (by decide +kernel : decode cX5_steps 2 = .ok (.iload_n 1, 1)) rfl ?_
  refine g_iload_n hF (by decide +kernel : decode cX5_steps 3 = .ok (.iload_n 2, 1)) rfl ?_
  refine g_callV hF lkX5_93 (y_X5_noKey X hX _ (by omega) _ hk _ hr h) (by decide +kernel : decode cX5_steps 4 = .ok (.invokevirtual 93, 3)) (by decide) rfl rfl rfl rfl jok51 (Nat.le_of_ble_eq_true rfl) (fun v4 m4 h4 => ?_)
  obtain ⟨rfl, e4⟩ := h4
  obtain rfl := e4.symm
  refine g_callV hF lkX5_53 (y_X5_fails X hX _) (by decide +kernel : decode cX5_steps 7 = .ok (.invokevirtual 53, 3)) (by decide) rfl rfl rfl rfl jok51 (Nat.le_of_ble_eq_true rfl) (fun v7 m7 h7 => ?_)
  obtain ⟨rfl, e7⟩ := h7
  have S0 : MSm m m7 := by rw [e7]; exact MSm_code m (Or.inl rfl) 0
  have I0 := MI_S hI S0
  have z0 : m7 51 2 = 0 := by rw [e7, mset_at]
  have r0 : ∀ t : Nat, mR m7 t = mR m t := fun t => mR_52 (S0.1 52 (by decide) (by decide) (by decide)) t
  refine g_if_eq hF (tgt := 17) (by decide +kernel : decode cX5_steps 10 = .ok (.ifCond .eq 7, 3)) (by decide) (by omega) (fun c10 => ?_) (fun c10 => ?_)
  · skip
    have hm0 : rowok (mR m7 s) := by rw [r0]; exact hr
    refine g_aload_n hF (by decide +kernel : decode cX5_steps 17 = .ok (.aload_n 0, 1)) rfl ?_
    refine g_iload_n hF (by decide +kernel : decode cX5_steps 18 = .ok (.iload_n 1, 1)) rfl ?_
    refine g_iload_n hF (by decide +kernel : decode cX5_steps 19 = .ok (.iload_n 2, 1)) rfl ?_
    refine g_callV hF lkX5_96 (c_X5_follows X hX _ (by omega) _ (show num _ from ⟨by omega, by omega⟩) _ (by assumption)) (by decide +kernel : decode cX5_steps 20 = .ok (.invokevirtual 96, 3)) (by decide) rfl rfl rfl rfl jok51 (Nat.le_of_ble_eq_true rfl) (fun v20 m20 h20 => ?_)
    obtain ⟨rfl, q20, a20, g20, y20⟩ := h20
    rw [r0 s] at a20 g20 ⊢
    refine g_ireturn hF hQ (by decide +kernel : decode cX5_steps 23 = .ok (.ireturn, 1)) ?_
    exact ⟨rfl, MSm_trans S0 q20, by rw [y20, z0]⟩
  · skip
    exact absurd c10 (by decide)
set_option maxHeartbeats 4000000 in
set_option maxRecDepth 100000 in
theorem n1_X5_steps (X : jX) (hX : jxok X) (s : Int) (js : jr s) (k : Int) (jk : jr k) (m : jM) (h : ¬ (0 ≤ s ∧ s < 8)) : Con X yX5_steps cX5_steps 3 (some .int) 8 [vR 2 51, vI s, vI k] m (fun o m' => o = some (vI 0) ∧ m' = mset m 51 2 1) := by
  refine Con.of hX (by decide) (Nat.le_of_ble_eq_true rfl) (fun F hF hQ => ?_)
  refine g_aload_n hF (by decide +kernel : decode cX5_steps 0 = .ok (.aload_n 0, 1)) rfl ?_
  refine g_aload_n hF (by decide +kernel : decode cX5_steps 1 = .ok (.aload_n 0, 1)) rfl ?_
  refine g_iload_n hF (by decide +kernel : decode cX5_steps 2 = .ok (.iload_n 1, 1)) rfl ?_
  refine g_iload_n hF (by decide +kernel : decode cX5_steps 3 = .ok (.iload_n 2, 1)) rfl ?_
  refine g_callV hF lkX5_93 (n1_X5_noKey X hX _ (by omega) (by omega) _ _) (by decide +kernel : decode cX5_steps 4 = .ok (.invokevirtual 93, 3)) (by decide) rfl rfl rfl rfl jok51 (Nat.le_of_ble_eq_true rfl) (fun v4 m4 h4 => ?_)
  obtain ⟨rfl, e4⟩ := h4
  obtain rfl := e4.symm
  refine g_callV hF lkX5_53 (n_X5_fails X hX _ (by decide) _) (by decide +kernel : decode cX5_steps 7 = .ok (.invokevirtual 53, 3)) (by decide) rfl rfl rfl rfl jok51 (Nat.le_of_ble_eq_true rfl) (fun v7 m7 h7 => ?_)
  obtain ⟨rfl, e7⟩ := h7
  obtain rfl := e7.symm
  refine g_if_eq hF (tgt := 17) (by decide +kernel : decode cX5_steps 10 = .ok (.ifCond .eq 7, 3)) (by decide) (by omega) (fun c10 => ?_) (fun c10 => ?_)
  · skip
    exact absurd c10 (by decide)
  · skip
    refine g_iconst hF (by decide +kernel : decode cX5_steps 13 = .ok (.iconst 0, 1)) ?_
    refine g_goto hF (tgt := 23) (by decide +kernel : decode cX5_steps 14 = .ok (.goto 9, 3)) (by decide) ?_
    refine g_ireturn hF hQ (by decide +kernel : decode cX5_steps 23 = .ok (.ireturn, 1)) ?_
    exact ⟨rfl, rfl⟩
set_option maxHeartbeats 4000000 in
set_option maxRecDepth 100000 in
theorem n2_X5_steps (X : jX) (hX : jxok X) (s : Nat) (hs : s < 8) (k : Int) (jk : jr k) (m : jM) (h : ¬ num k) : Con X yX5_steps cX5_steps 3 (some .int) 8 [vR 2 51, vI s, vI k] m (fun o m' => o = some (vI 0) ∧ m' = mset m 51 2 2) := by
  refine Con.of hX (by decide) (Nat.le_of_ble_eq_true rfl) (fun F hF hQ => ?_)
  refine g_aload_n hF (by decide +kernel : decode cX5_steps 0 = .ok (.aload_n 0, 1)) rfl ?_
  refine g_aload_n hF (by decide +kernel : decode cX5_steps 1 = .ok (.aload_n 0, 1)) rfl ?_
  refine g_iload_n hF (by decide +kernel : decode cX5_steps 2 = .ok (.iload_n 1, 1)) rfl ?_
  refine g_iload_n hF (by decide +kernel : decode cX5_steps 3 = .ok (.iload_n 2, 1)) rfl ?_
  refine g_callV hF lkX5_93 (n2_X5_noKey X hX _ (by omega) _ (by omega) h _) (by decide +kernel : decode cX5_steps 4 = .ok (.invokevirtual 93, 3)) (by decide) rfl rfl rfl rfl jok51 (Nat.le_of_ble_eq_true rfl) (fun v4 m4 h4 => ?_)
  obtain ⟨rfl, e4⟩ := h4
  obtain rfl := e4.symm
  refine g_callV hF lkX5_53 (n_X5_fails X hX _ (by decide) _) (by decide +kernel : decode cX5_steps 7 = .ok (.invokevirtual 53, 3)) (by decide) rfl rfl rfl rfl jok51 (Nat.le_of_ble_eq_true rfl) (fun v7 m7 h7 => ?_)
  obtain ⟨rfl, e7⟩ := h7
  obtain rfl := e7.symm
  refine g_if_eq hF (tgt := 17) (by decide +kernel : decode cX5_steps 10 = .ok (.ifCond .eq 7, 3)) (by decide) (by omega) (fun c10 => ?_) (fun c10 => ?_)
  · skip
    exact absurd c10 (by decide)
  · skip
    refine g_iconst hF (by decide +kernel : decode cX5_steps 13 = .ok (.iconst 0, 1)) ?_
    refine g_goto hF (tgt := 23) (by decide +kernel : decode cX5_steps 14 = .ok (.goto 9, 3)) (by decide) ?_
    refine g_ireturn hF hQ (by decide +kernel : decode cX5_steps 23 = .ok (.ireturn, 1)) ?_
    exact ⟨rfl, rfl⟩
set_option maxHeartbeats 4000000 in
set_option maxRecDepth 100000 in
theorem n3_X5_steps (X : jX) (hX : jxok X) (s : Nat) (hs : s < 8) (k : Int) (hk : num k) (m : jM) (hI : MI m) (h : tat (mR m s) k = -2) : Con X yX5_steps cX5_steps 3 (some .int) 8 [vR 2 51, vI s, vI k] m (fun o m' => o = some (vI 0) ∧ m' = mset m 51 2 3) := by
  refine Con.of hX (by decide) (Nat.le_of_ble_eq_true rfl) (fun F hF hQ => ?_)
  have hr := hI.1 s hs
  refine g_aload_n hF (by decide +kernel : decode cX5_steps 0 = .ok (.aload_n 0, 1)) rfl ?_
  refine g_aload_n hF (by decide +kernel : decode cX5_steps 1 = .ok (.aload_n 0, 1)) rfl ?_
  refine g_iload_n hF (by decide +kernel : decode cX5_steps 2 = .ok (.iload_n 1, 1)) rfl ?_
  refine g_iload_n hF (by decide +kernel : decode cX5_steps 3 = .ok (.iload_n 2, 1)) rfl ?_
  refine g_callV hF lkX5_93 (n3_X5_noKey X hX _ (by omega) _ hk _ hr h) (by decide +kernel : decode cX5_steps 4 = .ok (.invokevirtual 93, 3)) (by decide) rfl rfl rfl rfl jok51 (Nat.le_of_ble_eq_true rfl) (fun v4 m4 h4 => ?_)
  obtain ⟨rfl, e4⟩ := h4
  obtain rfl := e4.symm
  refine g_callV hF lkX5_53 (n_X5_fails X hX _ (by decide) _) (by decide +kernel : decode cX5_steps 7 = .ok (.invokevirtual 53, 3)) (by decide) rfl rfl rfl rfl jok51 (Nat.le_of_ble_eq_true rfl) (fun v7 m7 h7 => ?_)
  obtain ⟨rfl, e7⟩ := h7
  obtain rfl := e7.symm
  refine g_if_eq hF (tgt := 17) (by decide +kernel : decode cX5_steps 10 = .ok (.ifCond .eq 7, 3)) (by decide) (by omega) (fun c10 => ?_) (fun c10 => ?_)
  · skip
    exact absurd c10 (by decide)
  · skip
    refine g_iconst hF (by decide +kernel : decode cX5_steps 13 = .ok (.iconst 0, 1)) ?_
    refine g_goto hF (tgt := 23) (by decide +kernel : decode cX5_steps 14 = .ok (.goto 9, 3)) (by decide) ?_
    refine g_ireturn hF hQ (by decide +kernel : decode cX5_steps 23 = .ok (.ireturn, 1)) ?_
    exact ⟨rfl, rfl⟩
set_option maxHeartbeats 4000000 in
set_option maxRecDepth 100000 in
theorem c_X5_ring (X : jX) (hX : jxok X) (s : Nat) (hs : s < 8) (k : Int) (hk : num k) (m : jM) (hI : MI m) (h : ¬ tat (mR m s) k = -2) : Con X yX5_ring cX5_ring 4 (some .int) 8 [vR 2 51, vI s, vI k] m (fun o m' => o = some (vI (ringV (mR m s) k)) ∧ MSm m m' ∧ m' 51 2 = 0) := by
  refine Con.of hX (by decide) (Nat.le_of_ble_eq_true rfl) (fun F hF hQ => ?_)
  have hr := hI.1 s hs
  have hk2 : -1 ≤ k ∧ k ≤ 255 := hk
  have hab := againV_b hr hk
  have hpb := per_b (mR m s) k
  refine g_aload_n hF (by decide +kernel : decode cX5_ring 0 = .ok (.aload_n 0, 1)) rfl ?_
  refine g_aload_n hF (by decide +kernel : decode cX5_ring 1 = .ok (.aload_n 0, 1)) rfl ?_
  refine g_iload_n hF (by decide +kernel : decode cX5_ring 2 = .ok (.iload_n 1, 1)) rfl ?_
  refine g_iload_n hF (by decide +kernel : decode cX5_ring 3 = .ok (.iload_n 2, 1)) rfl ?_
  refine g_callV hF lkX5_93 (y_X5_noKey X hX _ (by omega) _ hk _ hr h) (by decide +kernel : decode cX5_ring 4 = .ok (.invokevirtual 93, 3)) (by decide) rfl rfl rfl rfl jok51 (Nat.le_of_ble_eq_true rfl) (fun v4 m4 h4 => ?_)
  obtain ⟨rfl, e4⟩ := h4
  obtain rfl := e4.symm
  refine g_callV hF lkX5_53 (y_X5_fails X hX _) (by decide +kernel : decode cX5_ring 7 = .ok (.invokevirtual 53, 3)) (by decide) rfl rfl rfl rfl jok51 (Nat.le_of_ble_eq_true rfl) (fun v7 m7 h7 => ?_)
  obtain ⟨rfl, e7⟩ := h7
  have S0 : MSm m m7 := by rw [e7]; exact MSm_code m (Or.inl rfl) 0
  have I0 := MI_S hI S0
  have z0 : m7 51 2 = 0 := by rw [e7, mset_at]
  have r0 : ∀ t : Nat, mR m7 t = mR m t := fun t => mR_52 (S0.1 52 (by decide) (by decide) (by decide)) t
  refine g_if_eq hF (tgt := 15) (by decide +kernel : decode cX5_ring 10 = .ok (.ifCond .eq 5, 3)) (by decide) (by omega) (fun c10 => ?_) (fun c10 => ?_)
  · skip
    have hm0 : rowok (mR m7 s) := by rw [r0]; exact hr
    refine g_aload_n hF (by decide +kernel : decode cX5_ring 15 = .ok (.aload_n 0, 1)) rfl ?_
    refine g_iload_n hF (by decide +kernel : decode cX5_ring 16 = .ok (.iload_n 1, 1)) rfl ?_
    refine g_iload_n hF (by decide +kernel : decode cX5_ring 17 = .ok (.iload_n 2, 1)) rfl ?_
    refine g_callV hF lkX5_96 (c_X5_follows X hX _ (by omega) _ (show num _ from ⟨by omega, by omega⟩) _ (by assumption)) (by decide +kernel : decode cX5_ring 18 = .ok (.invokevirtual 96, 3)) (by decide) rfl rfl rfl rfl jok51 (Nat.le_of_ble_eq_true rfl) (fun v18 m18 h18 => ?_)
    obtain ⟨rfl, q18, a18, g18, y18⟩ := h18
    rw [r0 s] at a18 g18 ⊢
    refine g_istore_n hF (by decide +kernel : decode cX5_ring 21 = .ok (.istore_n 3, 1)) (by decide) ?_
    refine g_aload_n hF (by decide +kernel : decode cX5_ring 22 = .ok (.aload_n 0, 1)) rfl ?_
    refine g_getC hF lkX5_90 (by decide +kernel : decode cX5_ring 23 = .ok (.getfield 90, 3)) jok51 rfl rfl ?_
    rw [g18]
    refine g_bipush hF (by decide +kernel : decode cX5_ring 26 = .ok (.bipush (-2), 2)) (by decide) ?_
    refine g_icmp_ne hF (tgt := 35) (by decide +kernel : decode cX5_ring 28 = .ok (.if_icmp .ne 7, 3)) (by decide) (by omega) (by omega) (fun c28 => ?_) (fun c28 => ?_)
    · skip
      refine g_iload_n hF (by decide +kernel : decode cX5_ring 35 = .ok (.iload_n 3, 1)) rfl ?_
      refine g_iconst hF (by decide +kernel : decode cX5_ring 36 = .ok (.iconst 1, 1)) ?_
      refine g_iadd hF (by decide +kernel : decode cX5_ring 37 = .ok (.iadd, 1)) ?_
      refine g_aload_n hF (by decide +kernel : decode cX5_ring 38 = .ok (.aload_n 0, 1)) rfl ?_
      refine g_getC hF lkX5_16 (by decide +kernel : decode cX5_ring 39 = .ok (.getfield 16, 3)) jok51 rfl rfl ?_
      refine g_aload_n hF (by decide +kernel : decode cX5_ring 42 = .ok (.aload_n 0, 1)) rfl ?_
      refine g_getC hF lkX5_90 (by decide +kernel : decode cX5_ring 43 = .ok (.getfield 90, 3)) jok51 rfl rfl ?_
      rw [g18]
      refine g_iconst hF (by decide +kernel : decode cX5_ring 46 = .ok (.iconst 1, 1)) ?_
      refine g_iadd hF (by decide +kernel : decode cX5_ring 47 = .ok (.iadd, 1)) ?_
      refine g_ldC hF (n := 257) (by decide +kernel : decode cX5_ring 48 = .ok (.iaload, 1)) jrr54 rfl (by omega) ?_
      refine g_isub hF (by decide +kernel : decode cX5_ring 49 = .ok (.isub, 1)) ?_
      refine g_ireturn hF hQ (by decide +kernel : decode cX5_ring 50 = .ok (.ireturn, 1)) ?_
      exact ⟨by rw [a18 _ (by omega) (by omega), ring_again, if_neg c28], MSm_trans S0 q18, by rw [y18, z0]⟩
    · skip
      refine g_iconst hF (by decide +kernel : decode cX5_ring 31 = .ok (.iconst 0, 1)) ?_
      refine g_goto hF (tgt := 50) (by decide +kernel : decode cX5_ring 32 = .ok (.goto 18, 3)) (by decide) ?_
      refine g_ireturn hF hQ (by decide +kernel : decode cX5_ring 50 = .ok (.ireturn, 1)) ?_
      exact ⟨by rw [ring_again, if_pos c28], MSm_trans S0 q18, by rw [y18, z0]⟩
  · skip
    exact absurd c10 (by decide)
set_option maxHeartbeats 4000000 in
set_option maxRecDepth 100000 in
theorem n1_X5_ring (X : jX) (hX : jxok X) (s : Int) (js : jr s) (k : Int) (jk : jr k) (m : jM) (h : ¬ (0 ≤ s ∧ s < 8)) : Con X yX5_ring cX5_ring 4 (some .int) 8 [vR 2 51, vI s, vI k] m (fun o m' => o = some (vI 0) ∧ m' = mset m 51 2 1) := by
  refine Con.of hX (by decide) (Nat.le_of_ble_eq_true rfl) (fun F hF hQ => ?_)
  refine g_aload_n hF (by decide +kernel : decode cX5_ring 0 = .ok (.aload_n 0, 1)) rfl ?_
  refine g_aload_n hF (by decide +kernel : decode cX5_ring 1 = .ok (.aload_n 0, 1)) rfl ?_
  refine g_iload_n hF (by decide +kernel : decode cX5_ring 2 = .ok (.iload_n 1, 1)) rfl ?_
  refine g_iload_n hF (by decide +kernel : decode cX5_ring 3 = .ok (.iload_n 2, 1)) rfl ?_
  refine g_callV hF lkX5_93 (n1_X5_noKey X hX _ (by omega) (by omega) _ _) (by decide +kernel : decode cX5_ring 4 = .ok (.invokevirtual 93, 3)) (by decide) rfl rfl rfl rfl jok51 (Nat.le_of_ble_eq_true rfl) (fun v4 m4 h4 => ?_)
  obtain ⟨rfl, e4⟩ := h4
  obtain rfl := e4.symm
  refine g_callV hF lkX5_53 (n_X5_fails X hX _ (by decide) _) (by decide +kernel : decode cX5_ring 7 = .ok (.invokevirtual 53, 3)) (by decide) rfl rfl rfl rfl jok51 (Nat.le_of_ble_eq_true rfl) (fun v7 m7 h7 => ?_)
  obtain ⟨rfl, e7⟩ := h7
  obtain rfl := e7.symm
  refine g_if_eq hF (tgt := 15) (by decide +kernel : decode cX5_ring 10 = .ok (.ifCond .eq 5, 3)) (by decide) (by omega) (fun c10 => ?_) (fun c10 => ?_)
  · skip
    exact absurd c10 (by decide)
  · skip
    refine g_iconst hF (by decide +kernel : decode cX5_ring 13 = .ok (.iconst 0, 1)) ?_
    refine g_ireturn hF hQ (by decide +kernel : decode cX5_ring 14 = .ok (.ireturn, 1)) ?_
    exact ⟨rfl, rfl⟩
set_option maxHeartbeats 4000000 in
set_option maxRecDepth 100000 in
theorem n2_X5_ring (X : jX) (hX : jxok X) (s : Nat) (hs : s < 8) (k : Int) (jk : jr k) (m : jM) (h : ¬ num k) : Con X yX5_ring cX5_ring 4 (some .int) 8 [vR 2 51, vI s, vI k] m (fun o m' => o = some (vI 0) ∧ m' = mset m 51 2 2) := by
  refine Con.of hX (by decide) (Nat.le_of_ble_eq_true rfl) (fun F hF hQ => ?_)
  refine g_aload_n hF (by decide +kernel : decode cX5_ring 0 = .ok (.aload_n 0, 1)) rfl ?_
  refine g_aload_n hF (by decide +kernel : decode cX5_ring 1 = .ok (.aload_n 0, 1)) rfl ?_
  refine g_iload_n hF (by decide +kernel : decode cX5_ring 2 = .ok (.iload_n 1, 1)) rfl ?_
  refine g_iload_n hF (by decide +kernel : decode cX5_ring 3 = .ok (.iload_n 2, 1)) rfl ?_
  refine g_callV hF lkX5_93 (n2_X5_noKey X hX _ (by omega) _ (by omega) h _) (by decide +kernel : decode cX5_ring 4 = .ok (.invokevirtual 93, 3)) (by decide) rfl rfl rfl rfl jok51 (Nat.le_of_ble_eq_true rfl) (fun v4 m4 h4 => ?_)
  obtain ⟨rfl, e4⟩ := h4
  obtain rfl := e4.symm
  refine g_callV hF lkX5_53 (n_X5_fails X hX _ (by decide) _) (by decide +kernel : decode cX5_ring 7 = .ok (.invokevirtual 53, 3)) (by decide) rfl rfl rfl rfl jok51 (Nat.le_of_ble_eq_true rfl) (fun v7 m7 h7 => ?_)
  obtain ⟨rfl, e7⟩ := h7
  obtain rfl := e7.symm
  refine g_if_eq hF (tgt := 15) (by decide +kernel : decode cX5_ring 10 = .ok (.ifCond .eq 5, 3)) (by decide) (by omega) (fun c10 => ?_) (fun c10 => ?_)
  · skip
    exact absurd c10 (by decide)
  · skip
    refine g_iconst hF (by decide +kernel : decode cX5_ring 13 = .ok (.iconst 0, 1)) ?_
    refine g_ireturn hF hQ (by decide +kernel : decode cX5_ring 14 = .ok (.ireturn, 1)) ?_
    exact ⟨rfl, rfl⟩
set_option maxHeartbeats 4000000 in
set_option maxRecDepth 100000 in
theorem n3_X5_ring (X : jX) (hX : jxok X) (s : Nat) (hs : s < 8) (k : Int) (hk : num k) (m : jM) (hI : MI m) (h : tat (mR m s) k = -2) : Con X yX5_ring cX5_ring 4 (some .int) 8 [vR 2 51, vI s, vI k] m (fun o m' => o = some (vI 0) ∧ m' = mset m 51 2 3) := by
  refine Con.of hX (by decide) (Nat.le_of_ble_eq_true rfl) (fun F hF hQ => ?_)
  have hr := hI.1 s hs
  refine g_aload_n hF (by decide +kernel : decode cX5_ring 0 = .ok (.aload_n 0, 1)) rfl ?_
  refine g_aload_n hF (by decide +kernel : decode cX5_ring 1 = .ok (.aload_n 0, 1)) rfl ?_
  refine g_iload_n hF (by decide +kernel : decode cX5_ring 2 = .ok (.iload_n 1, 1)) rfl ?_
  refine g_iload_n hF (by decide +kernel : decode cX5_ring 3 = .ok (.iload_n 2, 1)) rfl ?_
  refine g_callV hF lkX5_93 (n3_X5_noKey X hX _ (by omega) _ hk _ hr h) (by decide +kernel : decode cX5_ring 4 = .ok (.invokevirtual 93, 3)) (by decide) rfl rfl rfl rfl jok51 (Nat.le_of_ble_eq_true rfl) (fun v4 m4 h4 => ?_)
  obtain ⟨rfl, e4⟩ := h4
  obtain rfl := e4.symm
  refine g_callV hF lkX5_53 (n_X5_fails X hX _ (by decide) _) (by decide +kernel : decode cX5_ring 7 = .ok (.invokevirtual 53, 3)) (by decide) rfl rfl rfl rfl jok51 (Nat.le_of_ble_eq_true rfl) (fun v7 m7 h7 => ?_)
  obtain ⟨rfl, e7⟩ := h7
  obtain rfl := e7.symm
  refine g_if_eq hF (tgt := 15) (by decide +kernel : decode cX5_ring 10 = .ok (.ifCond .eq 5, 3)) (by decide) (by omega) (fun c10 => ?_) (fun c10 => ?_)
  · skip
    exact absurd c10 (by decide)
  · skip
    refine g_iconst hF (by decide +kernel : decode cX5_ring 13 = .ok (.iconst 0, 1)) ?_
    refine g_ireturn hF hQ (by decide +kernel : decode cX5_ring 14 = .ok (.ireturn, 1)) ?_
    exact ⟨rfl, rfl⟩
set_option maxHeartbeats 4000000 in
set_option maxRecDepth 100000 in
theorem c_X5_turn (X : jX) (hX : jxok X) (s : Nat) (hs : s < 8) (u : Nat) (hu : u < 8) (m : jM) (hI : MI m) (ho : once (mR m s)) : Con X yX5_turn cX5_turn 4 (some .int) 8 [vR 2 51, vI s, vI u] m (fun o m' => o = some (vI (cnt (turnN (mR m s) 257))) ∧ MW (mset m 51 2 0) u (turnN (mR m s) 257) m') := by
  refine Con.of hX (by decide) (Nat.le_of_ble_eq_true rfl) (fun F hF hQ => ?_)
  have hr := hI.1 s hs
  have hr2 := hI.1 u hu
  refine g_aload_n hF (by decide +kernel : decode cX5_turn 0 = .ok (.aload_n 0, 1)) rfl ?_
  refine g_iload_n hF (by decide +kernel : decode cX5_turn 1 = .ok (.iload_n 1, 1)) rfl ?_
  refine g_callS hF lkX5_42 (y_X5_isSlot X hX _ (by omega) (by omega) _) (by decide +kernel : decode cX5_turn 2 = .ok (.invokestatic 42, 3)) (by decide) rfl rfl (Nat.le_of_ble_eq_true rfl) (fun v2 m2 h2 => ?_)
  obtain ⟨rfl, e2⟩ := h2
  obtain rfl := e2.symm
  refine g_if_eq hF (tgt := 15) (by decide +kernel : decode cX5_turn 5 = .ok (.ifCond .eq 10, 3)) (by decide) (by omega) (fun c5 => ?_) (fun c5 => ?_)
  · skip
    exact absurd c5 (by decide)
  · skip
    refine g_iload_n hF (by decide +kernel : decode cX5_turn 8 = .ok (.iload_n 2, 1)) rfl ?_
    refine g_callS hF lkX5_42 (y_X5_isSlot X hX _ (by omega) (by omega) _) (by decide +kernel : decode cX5_turn 9 = .ok (.invokestatic 42, 3)) (by decide) rfl rfl (Nat.le_of_ble_eq_true rfl) (fun v9 m9 h9 => ?_)
    obtain ⟨rfl, e9⟩ := h9
    obtain rfl := e9.symm
    refine g_if_ne hF (tgt := 19) (by decide +kernel : decode cX5_turn 12 = .ok (.ifCond .ne 7, 3)) (by decide) (by omega) (fun c12 => ?_) (fun c12 => ?_)
    · skip
      refine g_aload_n hF (by decide +kernel : decode cX5_turn 19 = .ok (.aload_n 0, 1)) rfl ?_
      refine g_iload_n hF (by decide +kernel : decode cX5_turn 20 = .ok (.iload_n 1, 1)) rfl ?_
      refine g_callV hF lkX5_81 (c_X5_isTwice X hX _ (by omega) _ (by assumption)) (by decide +kernel : decode cX5_turn 21 = .ok (.invokevirtual 81, 3)) (by decide) rfl rfl rfl rfl jok51 (Nat.le_of_ble_eq_true rfl) (fun v21 m21 h21 => ?_)
      obtain ⟨rfl, e21⟩ := h21
      obtain rfl := e21.symm
      have hb1 := bI_c (¬ once (mR m s))
      refine g_if_eq hF (tgt := 31) (by decide +kernel : decode cX5_turn 24 = .ok (.ifCond .eq 7, 3)) (by decide) (by omega) (fun c24 => ?_) (fun c24 => ?_)
      · skip
        refine g_iconst hF (by decide +kernel : decode cX5_turn 31 = .ok (.iconst 0, 1)) ?_
        refine g_callV hF lkX5_53 (y_X5_fails X hX _) (by decide +kernel : decode cX5_turn 32 = .ok (.invokevirtual 53, 3)) (by decide) rfl rfl rfl rfl jok51 (Nat.le_of_ble_eq_true rfl) (fun v32 m32 h32 => ?_)
        obtain ⟨rfl, e32⟩ := h32
        have S0 : MSm m m32 := by rw [e32]; exact MSm_code m (Or.inl rfl) 0
        have I0 := MI_S hI S0
        have z0 : m32 51 2 = 0 := by rw [e32, mset_at]
        have r0 : ∀ t : Nat, mR m32 t = mR m t := fun t => mR_52 (S0.1 52 (by decide) (by decide) (by decide)) t
        refine g_if_eq hF (tgt := 40) (by decide +kernel : decode cX5_turn 35 = .ok (.ifCond .eq 5, 3)) (by decide) (by omega) (fun c35 => ?_) (fun c35 => ?_)
        · skip
          refine g_iconst hF (by decide +kernel : decode cX5_turn 40 = .ok (.iconst 0, 1)) ?_
          refine g_istore_n hF (by decide +kernel : decode cX5_turn 41 = .ok (.istore_n 3, 1)) (by decide) ?_
          have loop : ∀ (n i : Nat) (mm : jM), i ≤ 257 → 258 ≤ i + n → mm = mrow m32 53 (upto (fun _ => -2) (m32 53) i) → jG F X mm 42 [(0, vR 2 51), (1, vI s), (2, vI u), (3, vI i)] [] := by
            intro n
            induction n with
            | zero => intro i mm h1 h2; exact absurd h2 (by omega)
            | succ n ih =>
              intro i mm h1 h2 hc0
              refine g_iload_n hF (by decide +kernel : decode cX5_turn 42 = .ok (.iload_n 3, 1)) rfl ?_
              refine g_sipush hF (by decide +kernel : decode cX5_turn 43 = .ok (.sipush 257, 3)) (by decide) ?_
              refine g_icmp_ge hF (tgt := 63) (by decide +kernel : decode cX5_turn 46 = .ok (.if_icmp .ge 17, 3)) (by decide) (by omega) (by omega) (fun c46 => ?_) (fun c46 => ?_)
              · skip
                refine jG_m hc0 ?_
                obtain rfl : i = 257 := by omega
                refine g_eqv (mrow_eqv rfl upto_all) ?_
                refine g_iconst hF (by decide +kernel : decode cX5_turn 63 = .ok (.iconst (-1), 1)) ?_
                refine g_istore_n hF (by decide +kernel : decode cX5_turn 64 = .ok (.istore_n 3, 1)) (by decide) ?_
                have loop2 : ∀ (n i : Nat) (k : Int) (mm : jM), i ≤ 257 → 258 ≤ i + n → k = i - 1 → mm = mrow m32 53 (turnN (mR m s) i) → jG F X mm 65 [(0, vR 2 51), (1, vI s), (2, vI u), (3, vI k)] [] := by
                  intro n
                  induction n with
                  | zero => intro i k mm h1 h2; exact absurd h2 (by omega)
                  | succ n ih =>
                    intro i k mm h1 h2 hk hmm
                    have xR : mR mm s = mR m s := by rw [← r0]; exact mR_52 (by rw [hmm, mrow_ne (by decide)]) s
                    refine g_iload_n hF (by decide +kernel : decode cX5_turn 65 = .ok (.iload_n 3, 1)) rfl ?_
                    refine g_sipush hF (by decide +kernel : decode cX5_turn 66 = .ok (.sipush 256, 3)) (by decide) ?_
                    refine g_icmp_ge hF (tgt := 103) (by decide +kernel : decode cX5_turn 69 = .ok (.if_icmp .ge 34, 3)) (by decide) (by omega) (by omega) (fun c69 => ?_) (fun c69 => ?_)
                    · skip
                      obtain rfl : i = 257 := by omega
                      refine jG_m hmm ?_
                      have I2 : MI (mrow m32 53 (turnN (mR m s) 257)) := MI_S I0 (MSm_row (Or.inl rfl) _)
                      have ro : rowok ((mrow m32 53 (turnN (mR m s) 257)) 53) := by rw [mrow_at]; exact turn_ok _
                      refine g_aload_n hF (by decide +kernel : decode cX5_turn 103 = .ok (.aload_n 0, 1)) rfl ?_
                      refine g_iload_n hF (by decide +kernel : decode cX5_turn 104 = .ok (.iload_n 2, 1)) rfl ?_
                      refine g_callV hF lkX5_75 (c_X5_becomes X hX _ (by omega) _ (by assumption) (by assumption)) (by decide +kernel : decode cX5_turn 105 = .ok (.invokevirtual 75, 3)) (by decide) rfl rfl rfl rfl jok51 (Nat.le_of_ble_eq_true rfl) (fun v105 m105 h105 => ?_)
                      obtain ⟨rfl, w105⟩ := h105
                      rw [mrow_at] at w105 ⊢
                      have cw := MW_made w105
                      rw [e32] at cw
                      refine g_ireturn hF hQ (by decide +kernel : decode cX5_turn 108 = .ok (.ireturn, 1)) ?_
                      exact ⟨rfl, cw⟩
                    · skip
                      refine g_aload_n hF (by decide +kernel : decode cX5_turn 72 = .ok (.aload_n 0, 1)) rfl ?_
                      refine g_iload_n hF (by decide +kernel : decode cX5_turn 73 = .ok (.iload_n 1, 1)) rfl ?_
                      refine g_iload_n hF (by decide +kernel : decode cX5_turn 74 = .ok (.iload_n 3, 1)) rfl ?_
                      refine g_callV hF lkX5_60 (c_X5_at X hX _ (by omega) _ (show num _ from ⟨by omega, by omega⟩) _) (by decide +kernel : decode cX5_turn 75 = .ok (.invokevirtual 60, 3)) (by decide) rfl rfl rfl rfl jok51 (Nat.le_of_ble_eq_true rfl) (fun v75 m75 h75 => ?_)
                      obtain ⟨rfl, e75⟩ := h75
                      obtain rfl := e75.symm
                      rw [xR, show k + 1 = (i : Int) by omega]
                      have hb := hr i (by omega) (by omega)
                      refine g_bipush hF (by decide +kernel : decode cX5_turn 78 = .ok (.bipush (-2), 2)) (by decide) ?_
                      refine g_icmp_le hF (tgt := 97) (by decide +kernel : decode cX5_turn 80 = .ok (.if_icmp .le 17, 3)) (by decide) (by omega) (by omega) (fun c80 => ?_) (fun c80 => ?_)
                      · skip
                        refine g_iinc hF (by decide +kernel : decode cX5_turn 97 = .ok (.iinc 3 1, 3)) rfl (by decide) ?_
                        refine g_goto hF (tgt := 65) (by decide +kernel : decode cX5_turn 100 = .ok (.goto (-35), 3)) (by decide) ?_
                        exact ih (i + 1) _ mm (by omega) (by omega) (by omega) (by rw [hmm, turnN_s0 (by omega)])
                      · skip
                        refine g_aload_n hF (by decide +kernel : decode cX5_turn 83 = .ok (.aload_n 0, 1)) rfl ?_
                        refine g_getC hF lkX5_13 (by decide +kernel : decode cX5_turn 84 = .ok (.getfield 13, 3)) jok51 rfl rfl ?_
                        refine g_aload_n hF (by decide +kernel : decode cX5_turn 87 = .ok (.aload_n 0, 1)) rfl ?_
                        refine g_iload_n hF (by decide +kernel : decode cX5_turn 88 = .ok (.iload_n 1, 1)) rfl ?_
                        refine g_iload_n hF (by decide +kernel : decode cX5_turn 89 = .ok (.iload_n 3, 1)) rfl ?_
                        refine g_callV hF lkX5_60 (c_X5_at X hX _ (by omega) _ (show num _ from ⟨by omega, by omega⟩) _) (by decide +kernel : decode cX5_turn 90 = .ok (.invokevirtual 60, 3)) (by decide) rfl rfl rfl rfl jok51 (Nat.le_of_ble_eq_true rfl) (fun v90 m90 h90 => ?_)
                        obtain ⟨rfl, e90⟩ := h90
                        obtain rfl := e90.symm
                        rw [xR, show k + 1 = (i : Int) by omega]
                        refine g_iconst hF (by decide +kernel : decode cX5_turn 93 = .ok (.iconst 1, 1)) ?_
                        refine g_iadd hF (by decide +kernel : decode cX5_turn 94 = .ok (.iadd, 1)) ?_
                        refine g_iload_n hF (by decide +kernel : decode cX5_turn 95 = .ok (.iload_n 3, 1)) rfl ?_
                        refine g_stC hF (n := 257) (by decide +kernel : decode cX5_turn 96 = .ok (.iastore, 1)) jrr53 rfl (by omega) ?_
                        refine g_iinc hF (by decide +kernel : decode cX5_turn 97 = .ok (.iinc 3 1, 3)) rfl (by decide) ?_
                        refine g_goto hF (tgt := 65) (by decide +kernel : decode cX5_turn 100 = .ok (.goto (-35), 3)) (by decide) ?_
                        exact ih (i + 1) _ _ (by omega) (by omega) (by omega) (by rw [mset_row, hmm, mrow_mrow, mrow_at, turnN_s1 (by omega), hk]; refine mrow_ext ?_; unfold fmark; rw [if_pos ⟨by omega, by omega⟩])
                exact loop2 258 0 (-1) _ (by omega) (by omega) (by omega) (by rw [turnN_0])
              · skip
                refine g_aload_n hF (by decide +kernel : decode cX5_turn 49 = .ok (.aload_n 0, 1)) rfl ?_
                refine g_getC hF lkX5_13 (by decide +kernel : decode cX5_turn 50 = .ok (.getfield 13, 3)) jok51 rfl rfl ?_
                refine g_iload_n hF (by decide +kernel : decode cX5_turn 53 = .ok (.iload_n 3, 1)) rfl ?_
                refine g_bipush hF (by decide +kernel : decode cX5_turn 54 = .ok (.bipush (-2), 2)) (by decide) ?_
                refine g_stC hF (n := 257) (by decide +kernel : decode cX5_turn 56 = .ok (.iastore, 1)) jrr53 rfl (by omega) ?_
                refine g_iinc hF (by decide +kernel : decode cX5_turn 57 = .ok (.iinc 3 1, 3)) rfl (by decide) ?_
                refine g_goto hF (tgt := 42) (by decide +kernel : decode cX5_turn 60 = .ok (.goto (-18), 3)) (by decide) ?_
                exact ih (i + 1) _ (by omega) (by omega) (by rw [mset_row, hc0, mrow_mrow, mrow_at, upto_put (g := fun _ => -2) (f := m32 53) (i := i) (v := -2) rfl])
          exact loop 258 0 _ (by omega) (by omega) (by rw [show ((0 : Nat) : Int) = 0 from rfl, upto_0, mrow_self])
        · skip
          exact absurd c35 (by decide)
      · skip
        exact absurd (bI_f (fun q => q ho)) c24
    · skip
      exact absurd c12 (by decide)
set_option maxHeartbeats 4000000 in
set_option maxRecDepth 100000 in
theorem n1_X5_turn (X : jX) (hX : jxok X) (s : Int) (js : jr s) (u : Int) (ju : jr u) (m : jM) (h : ¬ ((0 ≤ s ∧ s < 8) ∧ (0 ≤ u ∧ u < 8))) : Con X yX5_turn cX5_turn 4 (some .int) 8 [vR 2 51, vI s, vI u] m (fun o m' => o = some (vI 0) ∧ m' = mset m 51 2 1) := by
  refine Con.of hX (by decide) (Nat.le_of_ble_eq_true rfl) (fun F hF hQ => ?_)
  refine g_aload_n hF (by decide +kernel : decode cX5_turn 0 = .ok (.aload_n 0, 1)) rfl ?_
  refine g_iload_n hF (by decide +kernel : decode cX5_turn 1 = .ok (.iload_n 1, 1)) rfl ?_
  rcases Classical.em (0 ≤ s ∧ s < 8) with s2 | s2
  · skip
    refine g_callS hF lkX5_42 (y_X5_isSlot X hX _ (by omega) (by omega) _) (by decide +kernel : decode cX5_turn 2 = .ok (.invokestatic 42, 3)) (by decide) rfl rfl (Nat.le_of_ble_eq_true rfl) (fun v2 m2 h2 => ?_)
    obtain ⟨rfl, e2⟩ := h2
    obtain rfl := e2.symm
    refine g_if_eq hF (tgt := 15) (by decide +kernel : decode cX5_turn 5 = .ok (.ifCond .eq 10, 3)) (by decide) (by omega) (fun c5 => ?_) (fun c5 => ?_)
    · skip
      exact absurd c5 (by decide)
    · skip
      refine g_iload_n hF (by decide +kernel : decode cX5_turn 8 = .ok (.iload_n 2, 1)) rfl ?_
      refine g_callS hF lkX5_42 (n_X5_isSlot X hX _ (by omega) (fun q => h ⟨s2, q⟩) _) (by decide +kernel : decode cX5_turn 9 = .ok (.invokestatic 42, 3)) (by decide) rfl rfl (Nat.le_of_ble_eq_true rfl) (fun v9 m9 h9 => ?_)
      obtain ⟨rfl, e9⟩ := h9
      obtain rfl := e9.symm
      refine g_if_ne hF (tgt := 19) (by decide +kernel : decode cX5_turn 12 = .ok (.ifCond .ne 7, 3)) (by decide) (by omega) (fun c12 => ?_) (fun c12 => ?_)
      · skip
        exact absurd c12 (by decide)
      · skip
        refine g_iconst hF (by decide +kernel : decode cX5_turn 15 = .ok (.iconst 1, 1)) ?_
        refine g_goto hF (tgt := 32) (by decide +kernel : decode cX5_turn 16 = .ok (.goto 16, 3)) (by decide) ?_
        refine g_callV hF lkX5_53 (n_X5_fails X hX _ (by decide) _) (by decide +kernel : decode cX5_turn 32 = .ok (.invokevirtual 53, 3)) (by decide) rfl rfl rfl rfl jok51 (Nat.le_of_ble_eq_true rfl) (fun v32 m32 h32 => ?_)
        obtain ⟨rfl, e32⟩ := h32
        obtain rfl := e32.symm
        refine g_if_eq hF (tgt := 40) (by decide +kernel : decode cX5_turn 35 = .ok (.ifCond .eq 5, 3)) (by decide) (by omega) (fun c35 => ?_) (fun c35 => ?_)
        · skip
          exact absurd c35 (by decide)
        · skip
          refine g_iconst hF (by decide +kernel : decode cX5_turn 38 = .ok (.iconst 0, 1)) ?_
          refine g_ireturn hF hQ (by decide +kernel : decode cX5_turn 39 = .ok (.ireturn, 1)) ?_
          exact ⟨rfl, rfl⟩
  · skip
    refine g_callS hF lkX5_42 (n_X5_isSlot X hX _ (by omega) (by omega) _) (by decide +kernel : decode cX5_turn 2 = .ok (.invokestatic 42, 3)) (by decide) rfl rfl (Nat.le_of_ble_eq_true rfl) (fun v2 m2 h2 => ?_)
    obtain ⟨rfl, e2⟩ := h2
    obtain rfl := e2.symm
    refine g_if_eq hF (tgt := 15) (by decide +kernel : decode cX5_turn 5 = .ok (.ifCond .eq 10, 3)) (by decide) (by omega) (fun c5 => ?_) (fun c5 => ?_)
    · skip
      refine g_iconst hF (by decide +kernel : decode cX5_turn 15 = .ok (.iconst 1, 1)) ?_
      refine g_goto hF (tgt := 32) (by decide +kernel : decode cX5_turn 16 = .ok (.goto 16, 3)) (by decide) ?_
      refine g_callV hF lkX5_53 (n_X5_fails X hX _ (by decide) _) (by decide +kernel : decode cX5_turn 32 = .ok (.invokevirtual 53, 3)) (by decide) rfl rfl rfl rfl jok51 (Nat.le_of_ble_eq_true rfl) (fun v32 m32 h32 => ?_)
      obtain ⟨rfl, e32⟩ := h32
      obtain rfl := e32.symm
      refine g_if_eq hF (tgt := 40) (by decide +kernel : decode cX5_turn 35 = .ok (.ifCond .eq 5, 3)) (by decide) (by omega) (fun c35 => ?_) (fun c35 => ?_)
      · skip
        exact absurd c35 (by decide)
      · skip
        refine g_iconst hF (by decide +kernel : decode cX5_turn 38 = .ok (.iconst 0, 1)) ?_
        refine g_ireturn hF hQ (by decide +kernel : decode cX5_turn 39 = .ok (.ireturn, 1)) ?_
        exact ⟨rfl, rfl⟩
    · skip
      exact absurd c5 (by decide)
set_option maxHeartbeats 4000000 in
set_option maxRecDepth 100000 in
theorem n2_X5_turn (X : jX) (hX : jxok X) (s : Nat) (hs : s < 8) (u : Nat) (hu : u < 8) (m : jM) (hI : MI m) (h : ¬ once (mR m s)) : Con X yX5_turn cX5_turn 4 (some .int) 8 [vR 2 51, vI s, vI u] m (fun o m' => o = some (vI 0) ∧ m' = mset m 51 2 2) := by
  refine Con.of hX (by decide) (Nat.le_of_ble_eq_true rfl) (fun F hF hQ => ?_)
  have hr := hI.1 s hs
  have hr2 := hI.1 u hu
  refine g_aload_n hF (by decide +kernel : decode cX5_turn 0 = .ok (.aload_n 0, 1)) rfl ?_
  refine g_iload_n hF (by decide +kernel : decode cX5_turn 1 = .ok (.iload_n 1, 1)) rfl ?_
  refine g_callS hF lkX5_42 (y_X5_isSlot X hX _ (by omega) (by omega) _) (by decide +kernel : decode cX5_turn 2 = .ok (.invokestatic 42, 3)) (by decide) rfl rfl (Nat.le_of_ble_eq_true rfl) (fun v2 m2 h2 => ?_)
  obtain ⟨rfl, e2⟩ := h2
  obtain rfl := e2.symm
  refine g_if_eq hF (tgt := 15) (by decide +kernel : decode cX5_turn 5 = .ok (.ifCond .eq 10, 3)) (by decide) (by omega) (fun c5 => ?_) (fun c5 => ?_)
  · skip
    exact absurd c5 (by decide)
  · skip
    refine g_iload_n hF (by decide +kernel : decode cX5_turn 8 = .ok (.iload_n 2, 1)) rfl ?_
    refine g_callS hF lkX5_42 (y_X5_isSlot X hX _ (by omega) (by omega) _) (by decide +kernel : decode cX5_turn 9 = .ok (.invokestatic 42, 3)) (by decide) rfl rfl (Nat.le_of_ble_eq_true rfl) (fun v9 m9 h9 => ?_)
    obtain ⟨rfl, e9⟩ := h9
    obtain rfl := e9.symm
    refine g_if_ne hF (tgt := 19) (by decide +kernel : decode cX5_turn 12 = .ok (.ifCond .ne 7, 3)) (by decide) (by omega) (fun c12 => ?_) (fun c12 => ?_)
    · skip
      refine g_aload_n hF (by decide +kernel : decode cX5_turn 19 = .ok (.aload_n 0, 1)) rfl ?_
      refine g_iload_n hF (by decide +kernel : decode cX5_turn 20 = .ok (.iload_n 1, 1)) rfl ?_
      refine g_callV hF lkX5_81 (c_X5_isTwice X hX _ (by omega) _ (by assumption)) (by decide +kernel : decode cX5_turn 21 = .ok (.invokevirtual 81, 3)) (by decide) rfl rfl rfl rfl jok51 (Nat.le_of_ble_eq_true rfl) (fun v21 m21 h21 => ?_)
      obtain ⟨rfl, e21⟩ := h21
      obtain rfl := e21.symm
      have hb1 := bI_c (¬ once (mR m s))
      refine g_if_eq hF (tgt := 31) (by decide +kernel : decode cX5_turn 24 = .ok (.ifCond .eq 7, 3)) (by decide) (by omega) (fun c24 => ?_) (fun c24 => ?_)
      · skip
        rw [bI_t h] at c24
        exact absurd c24 (by decide)
      · skip
        refine g_iconst hF (by decide +kernel : decode cX5_turn 27 = .ok (.iconst 2, 1)) ?_
        refine g_goto hF (tgt := 32) (by decide +kernel : decode cX5_turn 28 = .ok (.goto 4, 3)) (by decide) ?_
        refine g_callV hF lkX5_53 (n_X5_fails X hX _ (by decide) _) (by decide +kernel : decode cX5_turn 32 = .ok (.invokevirtual 53, 3)) (by decide) rfl rfl rfl rfl jok51 (Nat.le_of_ble_eq_true rfl) (fun v32 m32 h32 => ?_)
        obtain ⟨rfl, e32⟩ := h32
        obtain rfl := e32.symm
        refine g_if_eq hF (tgt := 40) (by decide +kernel : decode cX5_turn 35 = .ok (.ifCond .eq 5, 3)) (by decide) (by omega) (fun c35 => ?_) (fun c35 => ?_)
        · skip
          exact absurd c35 (by decide)
        · skip
          refine g_iconst hF (by decide +kernel : decode cX5_turn 38 = .ok (.iconst 0, 1)) ?_
          refine g_ireturn hF hQ (by decide +kernel : decode cX5_turn 39 = .ok (.ireturn, 1)) ?_
          exact ⟨rfl, rfl⟩
    · skip
      exact absurd c12 (by decide)
set_option maxHeartbeats 4000000 in
set_option maxRecDepth 100000 in
theorem c_X5_power (X : jX) (hX : jxok X) (s : Nat) (hs : s < 8) (e : Nat) (he : e ≤ 1000) (u : Nat) (hu : u < 8) (m : jM) (hI : MI m) : Con X yX5_power cX5_power 6 (some .int) 8 [vR 2 51, vI s, vI e, vI u] m (fun o m' => o = some (vI (cnt (powN (mR m s) (selv (mR m s)) e))) ∧ MW (mset m 51 2 0) u (powN (mR m s) (selv (mR m s)) e) m') := by
  refine Con.of hX (by decide) (Nat.le_of_ble_eq_true rfl) (fun F hF hQ => ?_)
  have hr := hI.1 s hs
  have hr2 := hI.1 u hu
  refine g_aload_n hF (by decide +kernel : decode cX5_power 0 = .ok (.aload_n 0, 1)) rfl ?_
  refine g_iload_n hF (by decide +kernel : decode cX5_power 1 = .ok (.iload_n 1, 1)) rfl ?_
  refine g_callS hF lkX5_42 (y_X5_isSlot X hX _ (by omega) (by omega) _) (by decide +kernel : decode cX5_power 2 = .ok (.invokestatic 42, 3)) (by decide) rfl rfl (Nat.le_of_ble_eq_true rfl) (fun v2 m2 h2 => ?_)
  obtain ⟨rfl, e2⟩ := h2
  obtain rfl := e2.symm
  refine g_if_eq hF (tgt := 15) (by decide +kernel : decode cX5_power 5 = .ok (.ifCond .eq 10, 3)) (by decide) (by omega) (fun c5 => ?_) (fun c5 => ?_)
  · skip
    exact absurd c5 (by decide)
  · skip
    refine g_iload_n hF (by decide +kernel : decode cX5_power 8 = .ok (.iload_n 3, 1)) rfl ?_
    refine g_callS hF lkX5_42 (y_X5_isSlot X hX _ (by omega) (by omega) _) (by decide +kernel : decode cX5_power 9 = .ok (.invokestatic 42, 3)) (by decide) rfl rfl (Nat.le_of_ble_eq_true rfl) (fun v9 m9 h9 => ?_)
    obtain ⟨rfl, e9⟩ := h9
    obtain rfl := e9.symm
    refine g_if_ne hF (tgt := 19) (by decide +kernel : decode cX5_power 12 = .ok (.ifCond .ne 7, 3)) (by decide) (by omega) (fun c12 => ?_) (fun c12 => ?_)
    · skip
      refine g_iload_n hF (by decide +kernel : decode cX5_power 19 = .ok (.iload_n 2, 1)) rfl ?_
      refine g_iconst hF (by decide +kernel : decode cX5_power 20 = .ok (.iconst 0, 1)) ?_
      refine g_sipush hF (by decide +kernel : decode cX5_power 21 = .ok (.sipush 1000, 3)) (by decide) ?_
      refine g_callS hF lkX5_35 (y_X5_in X hX _ _ _ (by omega) (by omega) (by omega) (by omega) _) (by decide +kernel : decode cX5_power 24 = .ok (.invokestatic 35, 3)) (by decide) rfl rfl (Nat.le_of_ble_eq_true rfl) (fun v24 m24 h24 => ?_)
      obtain ⟨rfl, e24⟩ := h24
      obtain rfl := e24.symm
      refine g_if_eq hF (tgt := 34) (by decide +kernel : decode cX5_power 27 = .ok (.ifCond .eq 7, 3)) (by decide) (by omega) (fun c27 => ?_) (fun c27 => ?_)
      · skip
        exact absurd c27 (by decide)
      · skip
        refine g_iconst hF (by decide +kernel : decode cX5_power 30 = .ok (.iconst 0, 1)) ?_
        refine g_goto hF (tgt := 35) (by decide +kernel : decode cX5_power 31 = .ok (.goto 4, 3)) (by decide) ?_
        refine g_callV hF lkX5_53 (y_X5_fails X hX _) (by decide +kernel : decode cX5_power 35 = .ok (.invokevirtual 53, 3)) (by decide) rfl rfl rfl rfl jok51 (Nat.le_of_ble_eq_true rfl) (fun v35 m35 h35 => ?_)
        obtain ⟨rfl, e35⟩ := h35
        have S0 : MSm m m35 := by rw [e35]; exact MSm_code m (Or.inl rfl) 0
        have I0 := MI_S hI S0
        have z0 : m35 51 2 = 0 := by rw [e35, mset_at]
        have r0 : ∀ t : Nat, mR m35 t = mR m t := fun t => mR_52 (S0.1 52 (by decide) (by decide) (by decide)) t
        refine g_if_eq hF (tgt := 43) (by decide +kernel : decode cX5_power 38 = .ok (.ifCond .eq 5, 3)) (by decide) (by omega) (fun c38 => ?_) (fun c38 => ?_)
        · skip
          refine g_iconst hF (by decide +kernel : decode cX5_power 43 = .ok (.iconst 0, 1)) ?_
          refine g_istore hF (by decide +kernel : decode cX5_power 44 = .ok (.istore 4, 2)) (by decide) ?_
          have loop : ∀ (n i : Nat) (mm : jM), i ≤ 257 → 258 ≤ i + n → mm = mrow m35 53 (upto (selv (mR m s)) (m35 53) i) → jG F X mm 46 [(0, vR 2 51), (1, vI s), (2, vI e), (3, vI u), (4, vI i)] [] := by
            intro n
            induction n with
            | zero => intro i mm h1 h2; exact absurd h2 (by omega)
            | succ n ih =>
              intro i mm h1 h2 hc0
              have x52 : ∀ t : Nat, mm 52 (257 * (t : Int) + i) = mR m t i := fun t => by rw [hc0, mrow_ne (by decide)]; exact congrFun (r0 t) i
              have xR : ∀ t : Nat, mR mm t = mR m t := fun t => by rw [← r0]; exact mR_52 (by rw [hc0, mrow_ne (by decide)]) t
              refine g_iload hF (by decide +kernel : decode cX5_power 46 = .ok (.iload 4, 2)) rfl ?_
              refine g_sipush hF (by decide +kernel : decode cX5_power 48 = .ok (.sipush 257, 3)) (by decide) ?_
              refine g_icmp_ge hF (tgt := 94) (by decide +kernel : decode cX5_power 51 = .ok (.if_icmp .ge 43, 3)) (by decide) (by omega) (by omega) (fun c51 => ?_) (fun c51 => ?_)
              · skip
                refine jG_m hc0 ?_
                obtain rfl : i = 257 := by omega
                refine g_eqv (mrow_eqv rfl upto_all) ?_
                refine g_iconst hF (by decide +kernel : decode cX5_power 94 = .ok (.iconst 0, 1)) ?_
                refine g_istore hF (by decide +kernel : decode cX5_power 95 = .ok (.istore 4, 2)) (by decide) ?_
                have loop2 : ∀ (n j : Nat) (mm : jM), j ≤ e → e + 1 ≤ j + n → mm = mrow m35 53 (powN (mR m s) (selv (mR m s)) j) → jG F X mm 97 [(0, vR 2 51), (1, vI s), (2, vI e), (3, vI u), (4, vI j)] [] := by
                  intro n
                  induction n with
                  | zero => intro j mm h1 h2; exact absurd h2 (by omega)
                  | succ n ih =>
                    intro j mm h1 h2 hmm
                    have ih1 := ih
                    refine g_iload hF (by decide +kernel : decode cX5_power 97 = .ok (.iload 4, 2)) rfl ?_
                    refine g_iload_n hF (by decide +kernel : decode cX5_power 99 = .ok (.iload_n 2, 1)) rfl ?_
                    refine g_icmp_ge hF (tgt := 157) (by decide +kernel : decode cX5_power 100 = .ok (.if_icmp .ge 57, 3)) (by decide) (by omega) (by omega) (fun c100 => ?_) (fun c100 => ?_)
                    · skip
                      obtain rfl : j = e := by omega
                      refine jG_m hmm ?_
                      have I2 : MI (mrow m35 53 (powN (mR m s) (selv (mR m s)) j)) := MI_S I0 (MSm_row (Or.inl rfl) _)
                      have ro : rowok ((mrow m35 53 (powN (mR m s) (selv (mR m s)) j)) 53) := by rw [mrow_at]; exact powN_ok hr (selv_ok _) _
                      refine g_aload_n hF (by decide +kernel : decode cX5_power 157 = .ok (.aload_n 0, 1)) rfl ?_
                      refine g_iload_n hF (by decide +kernel : decode cX5_power 158 = .ok (.iload_n 3, 1)) rfl ?_
                      refine g_callV hF lkX5_75 (c_X5_becomes X hX _ (by omega) _ (by assumption) (by assumption)) (by decide +kernel : decode cX5_power 159 = .ok (.invokevirtual 75, 3)) (by decide) rfl rfl rfl rfl jok51 (Nat.le_of_ble_eq_true rfl) (fun v159 m159 h159 => ?_)
                      obtain ⟨rfl, w159⟩ := h159
                      rw [mrow_at] at w159 ⊢
                      have cw := MW_made w159
                      rw [e35] at cw
                      refine g_ireturn hF hQ (by decide +kernel : decode cX5_power 162 = .ok (.ireturn, 1)) ?_
                      exact ⟨rfl, cw⟩
                    · skip
                      refine g_iconst hF (by decide +kernel : decode cX5_power 103 = .ok (.iconst 0, 1)) ?_
                      refine g_istore hF (by decide +kernel : decode cX5_power 104 = .ok (.istore 5, 2)) (by decide) ?_
                      have loop3 : ∀ (n i : Nat) (m3 : jM), i ≤ 257 → 258 ≤ i + n → m3 = mrow m35 53 (upto (powN (mR m s) (selv (mR m s)) (j + 1)) (powN (mR m s) (selv (mR m s)) j) i) → jG F X m3 106 [(0, vR 2 51), (1, vI s), (2, vI e), (3, vI u), (4, vI j), (5, vI i)] [] := by
                        intro n
                        induction n with
                        | zero => intro i m3 h1 h2; exact absurd h2 (by omega)
                        | succ n ih =>
                          intro i m3 k1 k2 hm3
                          have e53 : m3 53 i = powN (mR m s) (selv (mR m s)) j i := by rw [hm3, mrow_at, upto_at (Int.le_refl _)]
                          have xR3 : mR m3 s = mR m s := by rw [← r0]; exact mR_52 (by rw [hm3, mrow_ne (by decide)]) s
                          refine g_iload hF (by decide +kernel : decode cX5_power 106 = .ok (.iload 5, 2)) rfl ?_
                          refine g_sipush hF (by decide +kernel : decode cX5_power 108 = .ok (.sipush 257, 3)) (by decide) ?_
                          refine g_icmp_ge hF (tgt := 151) (by decide +kernel : decode cX5_power 111 = .ok (.if_icmp .ge 40, 3)) (by decide) (by omega) (by omega) (fun c111 => ?_) (fun c111 => ?_)
                          · skip
                            refine jG_m hm3 ?_
                            obtain rfl : i = 257 := by omega
                            refine g_eqv (mrow_eqv rfl upto_all) ?_
                            refine g_iinc hF (by decide +kernel : decode cX5_power 151 = .ok (.iinc 4 1, 3)) rfl (by decide) ?_
                            refine g_goto hF (tgt := 97) (by decide +kernel : decode cX5_power 154 = .ok (.goto (-57), 3)) (by decide) ?_
                            refine g_take 5 ?_
                            exact ih1 (j + 1) _ (by omega) (by omega) rfl
                          · skip
                            have b3 := powN_ok hr (selv_ok (mR m s)) j i (by omega) (by omega)
                            refine g_aload_n hF (by decide +kernel : decode cX5_power 114 = .ok (.aload_n 0, 1)) rfl ?_
                            refine g_getC hF lkX5_13 (by decide +kernel : decode cX5_power 115 = .ok (.getfield 13, 3)) jok51 rfl rfl ?_
                            refine g_iload hF (by decide +kernel : decode cX5_power 118 = .ok (.iload 5, 2)) rfl ?_
                            refine g_ldC hF (n := 257) (by decide +kernel : decode cX5_power 120 = .ok (.iaload, 1)) jrr53 rfl (by omega) ?_
                            rw [e53]
                            refine g_bipush hF (by decide +kernel : decode cX5_power 121 = .ok (.bipush (-2), 2)) (by decide) ?_
                            refine g_icmp_le hF (tgt := 145) (by decide +kernel : decode cX5_power 123 = .ok (.if_icmp .le 22, 3)) (by decide) (by omega) (by omega) (fun c123 => ?_) (fun c123 => ?_)
                            · skip
                              refine g_iinc hF (by decide +kernel : decode cX5_power 145 = .ok (.iinc 5 1, 3)) rfl (by decide) ?_
                              refine g_goto hF (tgt := 106) (by decide +kernel : decode cX5_power 148 = .ok (.goto (-42), 3)) (by decide) ?_
                              exact ih (i + 1) _ (by omega) (by omega) (by rw [hm3, upto_skip (show powN (mR m s) (selv (mR m s)) (j + 1) i = powN (mR m s) (selv (mR m s)) j i by rw [powN_s]; unfold comp; rw [if_pos (by omega)]; omega) (show ((i + 1 : Nat) : Int) = i + 1 by omega) (by omega)])
                            · skip
                              refine g_aload_n hF (by decide +kernel : decode cX5_power 126 = .ok (.aload_n 0, 1)) rfl ?_
                              refine g_getC hF lkX5_13 (by decide +kernel : decode cX5_power 127 = .ok (.getfield 13, 3)) jok51 rfl rfl ?_
                              refine g_iload hF (by decide +kernel : decode cX5_power 130 = .ok (.iload 5, 2)) rfl ?_
                              refine g_aload_n hF (by decide +kernel : decode cX5_power 132 = .ok (.aload_n 0, 1)) rfl ?_
                              refine g_iload_n hF (by decide +kernel : decode cX5_power 133 = .ok (.iload_n 1, 1)) rfl ?_
                              refine g_aload_n hF (by decide +kernel : decode cX5_power 134 = .ok (.aload_n 0, 1)) rfl ?_
                              refine g_getC hF lkX5_13 (by decide +kernel : decode cX5_power 135 = .ok (.getfield 13, 3)) jok51 rfl rfl ?_
                              refine g_iload hF (by decide +kernel : decode cX5_power 138 = .ok (.iload 5, 2)) rfl ?_
                              refine g_ldC hF (n := 257) (by decide +kernel : decode cX5_power 140 = .ok (.iaload, 1)) jrr53 rfl (by omega) ?_
                              rw [e53]
                              refine g_callV hF lkX5_60 (c_X5_at X hX _ (by omega) _ (show num _ from ⟨by omega, by omega⟩) _) (by decide +kernel : decode cX5_power 141 = .ok (.invokevirtual 60, 3)) (by decide) rfl rfl rfl rfl jok51 (Nat.le_of_ble_eq_true rfl) (fun v141 m141 h141 => ?_)
                              obtain ⟨rfl, e141⟩ := h141
                              obtain rfl := e141.symm
                              rw [xR3]
                              refine g_stC hF (n := 257) (by decide +kernel : decode cX5_power 144 = .ok (.iastore, 1)) jrr53 rfl (by omega) ?_
                              refine g_iinc hF (by decide +kernel : decode cX5_power 145 = .ok (.iinc 5 1, 3)) rfl (by decide) ?_
                              refine g_goto hF (tgt := 106) (by decide +kernel : decode cX5_power 148 = .ok (.goto (-42), 3)) (by decide) ?_
                              exact ih (i + 1) _ (by omega) (by omega) (by rw [mset_row, hm3, mrow_mrow, mrow_at, upto_put (g := powN (mR m s) (selv (mR m s)) (j + 1)) (f := powN (mR m s) (selv (mR m s)) j) (i := i) (by rw [powN_s]; unfold comp; rw [if_neg (by omega), tat_in ⟨by omega, by omega⟩])])
                      exact loop3 258 0 _ (by omega) (by omega) (by rw [hmm, show ((0 : Nat) : Int) = 0 from rfl, upto_0])
                exact loop2 (e + 1) 0 _ (by omega) (by omega) (by rw [powN_0])
              · skip
                have b1 := hr i (by omega) (by omega)
                refine g_aload_n hF (by decide +kernel : decode cX5_power 54 = .ok (.aload_n 0, 1)) rfl ?_
                refine g_getC hF lkX5_13 (by decide +kernel : decode cX5_power 55 = .ok (.getfield 13, 3)) jok51 rfl rfl ?_
                refine g_iload hF (by decide +kernel : decode cX5_power 58 = .ok (.iload 4, 2)) rfl ?_
                refine g_aload_n hF (by decide +kernel : decode cX5_power 60 = .ok (.aload_n 0, 1)) rfl ?_
                refine g_getC hF lkX5_7 (by decide +kernel : decode cX5_power 61 = .ok (.getfield 7, 3)) jok51 rfl rfl ?_
                refine g_sipush hF (by decide +kernel : decode cX5_power 64 = .ok (.sipush 257, 3)) (by decide) ?_
                refine g_iload_n hF (by decide +kernel : decode cX5_power 67 = .ok (.iload_n 1, 1)) rfl ?_
                refine g_imul hF (by decide +kernel : decode cX5_power 68 = .ok (.imul, 1)) ?_
                refine g_iload hF (by decide +kernel : decode cX5_power 69 = .ok (.iload 4, 2)) rfl ?_
                refine g_iadd hF (by decide +kernel : decode cX5_power 71 = .ok (.iadd, 1)) ?_
                refine g_ldC hF (n := 2056) (by decide +kernel : decode cX5_power 72 = .ok (.iaload, 1)) jrr52 rfl (by omega) ?_
                rw [x52 s]
                refine g_bipush hF (by decide +kernel : decode cX5_power 73 = .ok (.bipush (-2), 2)) (by decide) ?_
                refine g_icmp_ne hF (tgt := 83) (by decide +kernel : decode cX5_power 75 = .ok (.if_icmp .ne 8, 3)) (by decide) (by omega) (by omega) (fun c75 => ?_) (fun c75 => ?_)
                · skip
                  refine g_iload hF (by decide +kernel : decode cX5_power 83 = .ok (.iload 4, 2)) rfl ?_
                  refine g_iconst hF (by decide +kernel : decode cX5_power 85 = .ok (.iconst 1, 1)) ?_
                  refine g_isub hF (by decide +kernel : decode cX5_power 86 = .ok (.isub, 1)) ?_
                  refine g_stC hF (n := 257) (by decide +kernel : decode cX5_power 87 = .ok (.iastore, 1)) jrr53 rfl (by omega) ?_
                  refine g_iinc hF (by decide +kernel : decode cX5_power 88 = .ok (.iinc 4 1, 3)) rfl (by decide) ?_
                  refine g_goto hF (tgt := 46) (by decide +kernel : decode cX5_power 91 = .ok (.goto (-45), 3)) (by decide) ?_
                  exact ih (i + 1) _ (by omega) (by omega) (by rw [mset_row, hc0, mrow_mrow, mrow_at, upto_put (g := selv (mR m s)) (f := m35 53) (i := i) (by unfold selv; rw [if_neg c75])])
                · skip
                  refine g_bipush hF (by decide +kernel : decode cX5_power 78 = .ok (.bipush (-2), 2)) (by decide) ?_
                  refine g_goto hF (tgt := 87) (by decide +kernel : decode cX5_power 80 = .ok (.goto 7, 3)) (by decide) ?_
                  refine g_stC hF (n := 257) (by decide +kernel : decode cX5_power 87 = .ok (.iastore, 1)) jrr53 rfl (by omega) ?_
                  refine g_iinc hF (by decide +kernel : decode cX5_power 88 = .ok (.iinc 4 1, 3)) rfl (by decide) ?_
                  refine g_goto hF (tgt := 46) (by decide +kernel : decode cX5_power 91 = .ok (.goto (-45), 3)) (by decide) ?_
                  exact ih (i + 1) _ (by omega) (by omega) (by rw [mset_row, hc0, mrow_mrow, mrow_at, upto_put (g := selv (mR m s)) (f := m35 53) (i := i) (by unfold selv; rw [if_pos c75])])
          exact loop 258 0 _ (by omega) (by omega) (by rw [show ((0 : Nat) : Int) = 0 from rfl, upto_0, mrow_self])
        · skip
          exact absurd c38 (by decide)
    · skip
      exact absurd c12 (by decide)
set_option maxHeartbeats 4000000 in
set_option maxRecDepth 100000 in
theorem n1_X5_power (X : jX) (hX : jxok X) (s : Int) (js : jr s) (e : Int) (je : jr e) (u : Int) (ju : jr u) (m : jM) (h : ¬ ((0 ≤ s ∧ s < 8) ∧ (0 ≤ u ∧ u < 8))) : Con X yX5_power cX5_power 6 (some .int) 8 [vR 2 51, vI s, vI e, vI u] m (fun o m' => o = some (vI 0) ∧ m' = mset m 51 2 1) := by
  refine Con.of hX (by decide) (Nat.le_of_ble_eq_true rfl) (fun F hF hQ => ?_)
  refine g_aload_n hF (by decide +kernel : decode cX5_power 0 = .ok (.aload_n 0, 1)) rfl ?_
  refine g_iload_n hF (by decide +kernel : decode cX5_power 1 = .ok (.iload_n 1, 1)) rfl ?_
  rcases Classical.em (0 ≤ s ∧ s < 8) with s2 | s2
  · skip
    refine g_callS hF lkX5_42 (y_X5_isSlot X hX _ (by omega) (by omega) _) (by decide +kernel : decode cX5_power 2 = .ok (.invokestatic 42, 3)) (by decide) rfl rfl (Nat.le_of_ble_eq_true rfl) (fun v2 m2 h2 => ?_)
    obtain ⟨rfl, e2⟩ := h2
    obtain rfl := e2.symm
    refine g_if_eq hF (tgt := 15) (by decide +kernel : decode cX5_power 5 = .ok (.ifCond .eq 10, 3)) (by decide) (by omega) (fun c5 => ?_) (fun c5 => ?_)
    · skip
      exact absurd c5 (by decide)
    · skip
      refine g_iload_n hF (by decide +kernel : decode cX5_power 8 = .ok (.iload_n 3, 1)) rfl ?_
      refine g_callS hF lkX5_42 (n_X5_isSlot X hX _ (by omega) (fun q => h ⟨s2, q⟩) _) (by decide +kernel : decode cX5_power 9 = .ok (.invokestatic 42, 3)) (by decide) rfl rfl (Nat.le_of_ble_eq_true rfl) (fun v9 m9 h9 => ?_)
      obtain ⟨rfl, e9⟩ := h9
      obtain rfl := e9.symm
      refine g_if_ne hF (tgt := 19) (by decide +kernel : decode cX5_power 12 = .ok (.ifCond .ne 7, 3)) (by decide) (by omega) (fun c12 => ?_) (fun c12 => ?_)
      · skip
        exact absurd c12 (by decide)
      · skip
        refine g_iconst hF (by decide +kernel : decode cX5_power 15 = .ok (.iconst 1, 1)) ?_
        refine g_goto hF (tgt := 35) (by decide +kernel : decode cX5_power 16 = .ok (.goto 19, 3)) (by decide) ?_
        refine g_callV hF lkX5_53 (n_X5_fails X hX _ (by decide) _) (by decide +kernel : decode cX5_power 35 = .ok (.invokevirtual 53, 3)) (by decide) rfl rfl rfl rfl jok51 (Nat.le_of_ble_eq_true rfl) (fun v35 m35 h35 => ?_)
        obtain ⟨rfl, e35⟩ := h35
        obtain rfl := e35.symm
        refine g_if_eq hF (tgt := 43) (by decide +kernel : decode cX5_power 38 = .ok (.ifCond .eq 5, 3)) (by decide) (by omega) (fun c38 => ?_) (fun c38 => ?_)
        · skip
          exact absurd c38 (by decide)
        · skip
          refine g_iconst hF (by decide +kernel : decode cX5_power 41 = .ok (.iconst 0, 1)) ?_
          refine g_ireturn hF hQ (by decide +kernel : decode cX5_power 42 = .ok (.ireturn, 1)) ?_
          exact ⟨rfl, rfl⟩
  · skip
    refine g_callS hF lkX5_42 (n_X5_isSlot X hX _ (by omega) (by omega) _) (by decide +kernel : decode cX5_power 2 = .ok (.invokestatic 42, 3)) (by decide) rfl rfl (Nat.le_of_ble_eq_true rfl) (fun v2 m2 h2 => ?_)
    obtain ⟨rfl, e2⟩ := h2
    obtain rfl := e2.symm
    refine g_if_eq hF (tgt := 15) (by decide +kernel : decode cX5_power 5 = .ok (.ifCond .eq 10, 3)) (by decide) (by omega) (fun c5 => ?_) (fun c5 => ?_)
    · skip
      refine g_iconst hF (by decide +kernel : decode cX5_power 15 = .ok (.iconst 1, 1)) ?_
      refine g_goto hF (tgt := 35) (by decide +kernel : decode cX5_power 16 = .ok (.goto 19, 3)) (by decide) ?_
      refine g_callV hF lkX5_53 (n_X5_fails X hX _ (by decide) _) (by decide +kernel : decode cX5_power 35 = .ok (.invokevirtual 53, 3)) (by decide) rfl rfl rfl rfl jok51 (Nat.le_of_ble_eq_true rfl) (fun v35 m35 h35 => ?_)
      obtain ⟨rfl, e35⟩ := h35
      obtain rfl := e35.symm
      refine g_if_eq hF (tgt := 43) (by decide +kernel : decode cX5_power 38 = .ok (.ifCond .eq 5, 3)) (by decide) (by omega) (fun c38 => ?_) (fun c38 => ?_)
      · skip
        exact absurd c38 (by decide)
      · skip
        refine g_iconst hF (by decide +kernel : decode cX5_power 41 = .ok (.iconst 0, 1)) ?_
        refine g_ireturn hF hQ (by decide +kernel : decode cX5_power 42 = .ok (.ireturn, 1)) ?_
        exact ⟨rfl, rfl⟩
    · skip
      exact absurd c5 (by decide)
set_option maxHeartbeats 4000000 in
set_option maxRecDepth 100000 in
theorem n2_X5_power (X : jX) (hX : jxok X) (s : Nat) (hs : s < 8) (e : Int) (je : jr e) (u : Nat) (hu : u < 8) (m : jM) (h : ¬ (0 ≤ e ∧ e ≤ 1000)) : Con X yX5_power cX5_power 6 (some .int) 8 [vR 2 51, vI s, vI e, vI u] m (fun o m' => o = some (vI 0) ∧ m' = mset m 51 2 2) := by
  refine Con.of hX (by decide) (Nat.le_of_ble_eq_true rfl) (fun F hF hQ => ?_)
  refine g_aload_n hF (by decide +kernel : decode cX5_power 0 = .ok (.aload_n 0, 1)) rfl ?_
  refine g_iload_n hF (by decide +kernel : decode cX5_power 1 = .ok (.iload_n 1, 1)) rfl ?_
  refine g_callS hF lkX5_42 (y_X5_isSlot X hX _ (by omega) (by omega) _) (by decide +kernel : decode cX5_power 2 = .ok (.invokestatic 42, 3)) (by decide) rfl rfl (Nat.le_of_ble_eq_true rfl) (fun v2 m2 h2 => ?_)
  obtain ⟨rfl, e2⟩ := h2
  obtain rfl := e2.symm
  refine g_if_eq hF (tgt := 15) (by decide +kernel : decode cX5_power 5 = .ok (.ifCond .eq 10, 3)) (by decide) (by omega) (fun c5 => ?_) (fun c5 => ?_)
  · skip
    exact absurd c5 (by decide)
  · skip
    refine g_iload_n hF (by decide +kernel : decode cX5_power 8 = .ok (.iload_n 3, 1)) rfl ?_
    refine g_callS hF lkX5_42 (y_X5_isSlot X hX _ (by omega) (by omega) _) (by decide +kernel : decode cX5_power 9 = .ok (.invokestatic 42, 3)) (by decide) rfl rfl (Nat.le_of_ble_eq_true rfl) (fun v9 m9 h9 => ?_)
    obtain ⟨rfl, e9⟩ := h9
    obtain rfl := e9.symm
    refine g_if_ne hF (tgt := 19) (by decide +kernel : decode cX5_power 12 = .ok (.ifCond .ne 7, 3)) (by decide) (by omega) (fun c12 => ?_) (fun c12 => ?_)
    · skip
      refine g_iload_n hF (by decide +kernel : decode cX5_power 19 = .ok (.iload_n 2, 1)) rfl ?_
      refine g_iconst hF (by decide +kernel : decode cX5_power 20 = .ok (.iconst 0, 1)) ?_
      refine g_sipush hF (by decide +kernel : decode cX5_power 21 = .ok (.sipush 1000, 3)) (by decide) ?_
      refine g_callS hF lkX5_35 (n_X5_in X hX _ _ _ (by omega) (by omega) (by omega) (by omega) _) (by decide +kernel : decode cX5_power 24 = .ok (.invokestatic 35, 3)) (by decide) rfl rfl (Nat.le_of_ble_eq_true rfl) (fun v24 m24 h24 => ?_)
      obtain ⟨rfl, e24⟩ := h24
      obtain rfl := e24.symm
      refine g_if_eq hF (tgt := 34) (by decide +kernel : decode cX5_power 27 = .ok (.ifCond .eq 7, 3)) (by decide) (by omega) (fun c27 => ?_) (fun c27 => ?_)
      · skip
        refine g_iconst hF (by decide +kernel : decode cX5_power 34 = .ok (.iconst 2, 1)) ?_
        refine g_callV hF lkX5_53 (n_X5_fails X hX _ (by decide) _) (by decide +kernel : decode cX5_power 35 = .ok (.invokevirtual 53, 3)) (by decide) rfl rfl rfl rfl jok51 (Nat.le_of_ble_eq_true rfl) (fun v35 m35 h35 => ?_)
        obtain ⟨rfl, e35⟩ := h35
        obtain rfl := e35.symm
        refine g_if_eq hF (tgt := 43) (by decide +kernel : decode cX5_power 38 = .ok (.ifCond .eq 5, 3)) (by decide) (by omega) (fun c38 => ?_) (fun c38 => ?_)
        · skip
          exact absurd c38 (by decide)
        · skip
          refine g_iconst hF (by decide +kernel : decode cX5_power 41 = .ok (.iconst 0, 1)) ?_
          refine g_ireturn hF hQ (by decide +kernel : decode cX5_power 42 = .ok (.ireturn, 1)) ?_
          exact ⟨rfl, rfl⟩
      · skip
        exact absurd c27 (by decide)
    · skip
      exact absurd c12 (by decide)
set_option maxHeartbeats 4000000 in
set_option maxRecDepth 100000 in
theorem c_X5_order (X : jX) (hX : jxok X) (s : Nat) (hs : s < 8) (m : jM) (hI : MI m) (hi : inside (mR m s)) (ho : once (mR m s)) : Con X yX5_order cX5_order 13 (some .long) 8 [vR 2 51, vI s] m (fun o m' => o = some (vL ((lcmN (mR m s) 257 : Nat) : Int)) ∧ MSm m m' ∧ m' 51 2 = 0) := by
  refine Con.of hX (by decide) (Nat.le_of_ble_eq_true rfl) (fun F hF hQ => ?_)
  have hr := hI.1 s hs
  have hp : perm (mR m s) := ⟨hr, once_inj hr ho, hi⟩
  refine g_aload_n hF (by decide +kernel : decode cX5_order 0 = .ok (.aload_n 0, 1)) rfl ?_
  refine g_iload_n hF (by decide +kernel : decode cX5_order 1 = .ok (.iload_n 1, 1)) rfl ?_
  refine g_callS hF lkX5_42 (y_X5_isSlot X hX _ (by omega) (by omega) _) (by decide +kernel : decode cX5_order 2 = .ok (.invokestatic 42, 3)) (by decide) rfl rfl (Nat.le_of_ble_eq_true rfl) (fun v2 m2 h2 => ?_)
  obtain ⟨rfl, e2⟩ := h2
  obtain rfl := e2.symm
  refine g_if_ne hF (tgt := 12) (by decide +kernel : decode cX5_order 5 = .ok (.ifCond .ne 7, 3)) (by decide) (by omega) (fun c5 => ?_) (fun c5 => ?_)
  · skip
    refine g_aload_n hF (by decide +kernel : decode cX5_order 12 = .ok (.aload_n 0, 1)) rfl ?_
    refine g_iload_n hF (by decide +kernel : decode cX5_order 13 = .ok (.iload_n 1, 1)) rfl ?_
    refine g_callV hF lkX5_84 (c_X5_isIntoItself X hX _ (by omega) _ (by assumption)) (by decide +kernel : decode cX5_order 14 = .ok (.invokevirtual 84, 3)) (by decide) rfl rfl rfl rfl jok51 (Nat.le_of_ble_eq_true rfl) (fun v14 m14 h14 => ?_)
    obtain ⟨rfl, e14⟩ := h14
    obtain rfl := e14.symm
    have hb0 := bI_c (inside (mR m s))
    refine g_if_eq hF (tgt := 28) (by decide +kernel : decode cX5_order 17 = .ok (.ifCond .eq 11, 3)) (by decide) (by omega) (fun c17 => ?_) (fun c17 => ?_)
    · skip
      rw [bI_t hi] at c17
      exact absurd c17 (by decide)
    · skip
      refine g_aload_n hF (by decide +kernel : decode cX5_order 20 = .ok (.aload_n 0, 1)) rfl ?_
      refine g_iload_n hF (by decide +kernel : decode cX5_order 21 = .ok (.iload_n 1, 1)) rfl ?_
      refine g_callV hF lkX5_81 (c_X5_isTwice X hX _ (by omega) _ (by assumption)) (by decide +kernel : decode cX5_order 22 = .ok (.invokevirtual 81, 3)) (by decide) rfl rfl rfl rfl jok51 (Nat.le_of_ble_eq_true rfl) (fun v22 m22 h22 => ?_)
      obtain ⟨rfl, e22⟩ := h22
      obtain rfl := e22.symm
      have hb1 := bI_c (¬ once (mR m s))
      refine g_if_eq hF (tgt := 32) (by decide +kernel : decode cX5_order 25 = .ok (.ifCond .eq 7, 3)) (by decide) (by omega) (fun c25 => ?_) (fun c25 => ?_)
      · skip
        refine g_iconst hF (by decide +kernel : decode cX5_order 32 = .ok (.iconst 0, 1)) ?_
        refine g_callV hF lkX5_53 (y_X5_fails X hX _) (by decide +kernel : decode cX5_order 33 = .ok (.invokevirtual 53, 3)) (by decide) rfl rfl rfl rfl jok51 (Nat.le_of_ble_eq_true rfl) (fun v33 m33 h33 => ?_)
        obtain ⟨rfl, e33⟩ := h33
        have S0 : MSm m m33 := by rw [e33]; exact MSm_code m (Or.inl rfl) 0
        have I0 := MI_S hI S0
        have z0 : m33 51 2 = 0 := by rw [e33, mset_at]
        have r0 : ∀ t : Nat, mR m33 t = mR m t := fun t => mR_52 (S0.1 52 (by decide) (by decide) (by decide)) t
        refine g_if_eq hF (tgt := 41) (by decide +kernel : decode cX5_order 36 = .ok (.ifCond .eq 5, 3)) (by decide) (by omega) (fun c36 => ?_) (fun c36 => ?_)
        · skip
          refine g_lconst hF (by decide +kernel : decode cX5_order 41 = .ok (.lconst 1, 1)) rfl ?_
          refine g_lstore_n hF (by decide +kernel : decode cX5_order 42 = .ok (.lstore_n 2, 1)) (by decide) ?_
          refine g_iconst hF (by decide +kernel : decode cX5_order 43 = .ok (.iconst (-1), 1)) ?_
          refine g_istore hF (by decide +kernel : decode cX5_order 44 = .ok (.istore 4, 2)) (by decide) ?_
          have loop : ∀ (n i : Nat) (k L : Int) (mm : jM), i ≤ 257 → 258 ≤ i + n → k = i - 1 → L = (lcmN (mR m s) i : Nat) → MSm m mm → mm 51 2 = 0 → jG F X mm 46 [(0, vR 2 51), (1, vI s), (2, vL L), (4, vI k)] [] := by
            intro n
            induction n with
            | zero => intro i k L mm h1 h2; exact absurd h2 (by omega)
            | succ n ih =>
              intro i k L mm h1 h2 hk hL qm z1
              subst hL
              have ih1 := ih
              have xR : mR mm s = mR m s := mR_52 (qm.1 52 (by decide) (by decide) (by decide)) s
              have hm0 : rowok (mR mm s) := by rw [xR]; exact hr
              refine g_iload hF (by decide +kernel : decode cX5_order 46 = .ok (.iload 4, 2)) rfl ?_
              refine g_sipush hF (by decide +kernel : decode cX5_order 48 = .ok (.sipush 256, 3)) (by decide) ?_
              refine g_icmp_ge hF (tgt := 125) (by decide +kernel : decode cX5_order 51 = .ok (.if_icmp .ge 74, 3)) (by decide) (by omega) (by omega) (fun c51 => ?_) (fun c51 => ?_)
              · skip
                refine g_lload_n hF (by decide +kernel : decode cX5_order 125 = .ok (.lload_n 2, 1)) rfl ?_
                refine g_lreturn hF hQ (by decide +kernel : decode cX5_order 126 = .ok (.lreturn, 1)) ?_
                exact ⟨by rw [show i = 257 by omega], qm, z1⟩
              · skip
                refine g_aload_n hF (by decide +kernel : decode cX5_order 54 = .ok (.aload_n 0, 1)) rfl ?_
                refine g_iload_n hF (by decide +kernel : decode cX5_order 55 = .ok (.iload_n 1, 1)) rfl ?_
                refine g_iload hF (by decide +kernel : decode cX5_order 56 = .ok (.iload 4, 2)) rfl ?_
                refine g_callV hF lkX5_60 (c_X5_at X hX _ (by omega) _ (show num _ from ⟨by omega, by omega⟩) _) (by decide +kernel : decode cX5_order 58 = .ok (.invokevirtual 60, 3)) (by decide) rfl rfl rfl rfl jok51 (Nat.le_of_ble_eq_true rfl) (fun v58 m58 h58 => ?_)
                obtain ⟨rfl, e58⟩ := h58
                obtain rfl := e58.symm
                rw [xR, show k + 1 = (i : Int) by omega]
                have hb := hr i (by omega) (by omega)
                refine g_bipush hF (by decide +kernel : decode cX5_order 61 = .ok (.bipush (-2), 2)) (by decide) ?_
                refine g_icmp_ne hF (tgt := 69) (by decide +kernel : decode cX5_order 63 = .ok (.if_icmp .ne 6, 3)) (by decide) (by omega) (by omega) (fun c63 => ?_) (fun c63 => ?_)
                · skip
                  refine g_aload_n hF (by decide +kernel : decode cX5_order 69 = .ok (.aload_n 0, 1)) rfl ?_
                  refine g_iload_n hF (by decide +kernel : decode cX5_order 70 = .ok (.iload_n 1, 1)) rfl ?_
                  refine g_iload hF (by decide +kernel : decode cX5_order 71 = .ok (.iload 4, 2)) rfl ?_
                  refine g_callV hF lkX5_96 (c_X5_follows X hX _ (by omega) _ (show num _ from ⟨by omega, by omega⟩) _ (by assumption)) (by decide +kernel : decode cX5_order 73 = .ok (.invokevirtual 96, 3)) (by decide) rfl rfl rfl rfl jok51 (Nat.le_of_ble_eq_true rfl) (fun v73 m73 h73 => ?_)
                  obtain ⟨rfl, q73, a73, g73, y73⟩ := h73
                  rw [xR]
                  have hkey : tat (mR m s) k ≠ -2 := by rw [tat_i hk (by omega) (by omega)]; exact c63
                  have hpa := per_at hp hkey
                  have hl := lcm_small hp (n := i) (by omega)
                  have qm2 : MSm m m73 := MSm_trans qm q73
                  have z2 : m73 51 2 = 0 := by rw [y73, z1]
                  refine g_i2l hF (by decide +kernel : decode cX5_order 76 = .ok (.i2l, 1)) (by omega) ?_
                  refine g_lstore hF (by decide +kernel : decode cX5_order 77 = .ok (.lstore 5, 2)) (by decide) ?_
                  refine g_lload_n hF (by decide +kernel : decode cX5_order 79 = .ok (.lload_n 2, 1)) rfl ?_
                  refine g_lstore hF (by decide +kernel : decode cX5_order 80 = .ok (.lstore 7, 2)) (by decide) ?_
                  refine g_lload hF (by decide +kernel : decode cX5_order 82 = .ok (.lload 5, 2)) rfl ?_
                  refine g_lstore hF (by decide +kernel : decode cX5_order 84 = .ok (.lstore 9, 2)) (by decide) ?_
                  have loop2 : ∀ (n g t : Nat), t < n → g < 9223372036854775808 → t ≤ 257 → Nat.gcd g t = Nat.gcd (lcmN (mR m s) i) (per (mR m s) k) → jG F X m73 86 [(0, vR 2 51), (1, vI s), (2, vL ((lcmN (mR m s) i : Nat) : Int)), (4, vI k), (5, vL ((per (mR m s) k : Nat) : Int)), (7, vL g), (9, vL t)] [] := by
                    intro n
                    induction n with
                    | zero => intro g t h; exact absurd h (by omega)
                    | succ n ih =>
                      intro g t k1 k2 k3 k4
                      refine g_lload hF (by decide +kernel : decode cX5_order 86 = .ok (.lload 9, 2)) rfl ?_
                      refine g_lconst hF (by decide +kernel : decode cX5_order 88 = .ok (.lconst 0, 1)) rfl ?_
                      refine g_lcmp hF (by decide +kernel : decode cX5_order 89 = .ok (.lcmp, 1)) (by omega) (by omega) ?_
                      refine g_if_le hF (tgt := 111) (by decide +kernel : decode cX5_order 90 = .ok (.ifCond .le 21, 3)) (by decide) (jcmp_r _ _) (fun c90 => ?_) (fun c90 => ?_)
                      · skip
                        have k0 : t = 0 := by have := jcmp_le.mp c90; omega
                        rw [k0, Nat.gcd_zero_right] at k4
                        have k6 := Nat.gcd_pos_of_pos_right (lcmN (mR m s) i) (show 0 < per (mR m s) k by omega)
                        refine g_lload_n hF (by decide +kernel : decode cX5_order 111 = .ok (.lload_n 2, 1)) rfl ?_
                        refine g_lload hF (by decide +kernel : decode cX5_order 112 = .ok (.lload 7, 2)) rfl ?_
                        refine g_ldiv hF (by decide +kernel : decode cX5_order 114 = .ok (.ldiv, 1)) (⟨by omega, by omega⟩) (⟨by omega, by omega⟩) ?_
                        refine g_lload hF (by decide +kernel : decode cX5_order 115 = .ok (.lload 5, 2)) rfl ?_
                        refine g_lmul hF (by decide +kernel : decode cX5_order 117 = .ok (.lmul, 1)) ?_
                        refine g_lstore_n hF (by decide +kernel : decode cX5_order 118 = .ok (.lstore_n 2, 1)) (by decide) ?_
                        refine g_iinc hF (by decide +kernel : decode cX5_order 119 = .ok (.iinc 4 1, 3)) rfl (by decide) ?_
                        refine g_goto hF (tgt := 46) (by decide +kernel : decode cX5_order 122 = .ok (.goto (-76), 3)) (by decide) ?_
                        refine g_take 5 ?_
                        exact ih1 (i + 1) _ _ m73 (by omega) (by omega) (by omega) (by rw [lcmN_s c63, ← hk, ← lcm_div, ← k4]; rfl) qm2 z2
                      · skip
                        have k0 : ¬ (t : Int) ≤ 0 := fun q => c90 (jcmp_le.mpr q)
                        refine g_lload hF (by decide +kernel : decode cX5_order 93 = .ok (.lload 7, 2)) rfl ?_
                        refine g_lload hF (by decide +kernel : decode cX5_order 95 = .ok (.lload 9, 2)) rfl ?_
                        refine g_lrem hF (by decide +kernel : decode cX5_order 97 = .ok (.lrem, 1)) (⟨by omega, by omega⟩) (⟨by omega, by omega⟩) ?_
                        refine g_lstore hF (by decide +kernel : decode cX5_order 98 = .ok (.lstore 11, 2)) (by decide) ?_
                        refine g_lload hF (by decide +kernel : decode cX5_order 100 = .ok (.lload 9, 2)) rfl ?_
                        refine g_lstore hF (by decide +kernel : decode cX5_order 102 = .ok (.lstore 7, 2)) (by decide) ?_
                        refine g_lload hF (by decide +kernel : decode cX5_order 104 = .ok (.lload 11, 2)) rfl ?_
                        refine g_lstore hF (by decide +kernel : decode cX5_order 106 = .ok (.lstore 9, 2)) (by decide) ?_
                        refine g_goto hF (tgt := 86) (by decide +kernel : decode cX5_order 108 = .ok (.goto (-22), 3)) (by decide) ?_
                        rw [← Int.ofNat_tmod]
                        refine g_take 11 ?_
                        have k5 := Nat.mod_lt g (show 0 < t by omega)
                        exact ih t (g % t) (by omega) (by omega) (by omega) (by rw [← k4, Nat.gcd_comm g t, Nat.gcd_rec t g]; exact Nat.gcd_comm _ _)
                  exact loop2 (per (mR m s) k + 1) _ _ (by omega) hl (by omega) rfl
                · skip
                  refine g_goto hF (tgt := 119) (by decide +kernel : decode cX5_order 66 = .ok (.goto 53, 3)) (by decide) ?_
                  refine g_iinc hF (by decide +kernel : decode cX5_order 119 = .ok (.iinc 4 1, 3)) rfl (by decide) ?_
                  refine g_goto hF (tgt := 46) (by decide +kernel : decode cX5_order 122 = .ok (.goto (-76), 3)) (by decide) ?_
                  exact ih1 (i + 1) _ _ mm (by omega) (by omega) (by omega) (by rw [lcmN_no c63]) qm z1
          exact loop 258 0 (-1) 1 m33 (by omega) (by omega) (by omega) (by rw [lcmN_0]; rfl) S0 z0
        · skip
          exact absurd c36 (by decide)
      · skip
        exact absurd (bI_f (fun q => q ho)) c25
  · skip
    exact absurd c5 (by decide)
set_option maxHeartbeats 4000000 in
set_option maxRecDepth 100000 in
theorem n1_X5_order (X : jX) (hX : jxok X) (s : Int) (js : jr s) (m : jM) (h : ¬ (0 ≤ s ∧ s < 8)) : Con X yX5_order cX5_order 13 (some .long) 8 [vR 2 51, vI s] m (fun o m' => o = some (vL 0) ∧ m' = mset m 51 2 1) := by
  refine Con.of hX (by decide) (Nat.le_of_ble_eq_true rfl) (fun F hF hQ => ?_)
  refine g_aload_n hF (by decide +kernel : decode cX5_order 0 = .ok (.aload_n 0, 1)) rfl ?_
  refine g_iload_n hF (by decide +kernel : decode cX5_order 1 = .ok (.iload_n 1, 1)) rfl ?_
  refine g_callS hF lkX5_42 (n_X5_isSlot X hX _ (by omega) (by omega) _) (by decide +kernel : decode cX5_order 2 = .ok (.invokestatic 42, 3)) (by decide) rfl rfl (Nat.le_of_ble_eq_true rfl) (fun v2 m2 h2 => ?_)
  obtain ⟨rfl, e2⟩ := h2
  obtain rfl := e2.symm
  refine g_if_ne hF (tgt := 12) (by decide +kernel : decode cX5_order 5 = .ok (.ifCond .ne 7, 3)) (by decide) (by omega) (fun c5 => ?_) (fun c5 => ?_)
  · skip
    exact absurd c5 (by decide)
  · skip
    refine g_iconst hF (by decide +kernel : decode cX5_order 8 = .ok (.iconst 1, 1)) ?_
    refine g_goto hF (tgt := 33) (by decide +kernel : decode cX5_order 9 = .ok (.goto 24, 3)) (by decide) ?_
    refine g_callV hF lkX5_53 (n_X5_fails X hX _ (by decide) _) (by decide +kernel : decode cX5_order 33 = .ok (.invokevirtual 53, 3)) (by decide) rfl rfl rfl rfl jok51 (Nat.le_of_ble_eq_true rfl) (fun v33 m33 h33 => ?_)
    obtain ⟨rfl, e33⟩ := h33
    obtain rfl := e33.symm
    refine g_if_eq hF (tgt := 41) (by decide +kernel : decode cX5_order 36 = .ok (.ifCond .eq 5, 3)) (by decide) (by omega) (fun c36 => ?_) (fun c36 => ?_)
    · skip
      exact absurd c36 (by decide)
    · skip
      refine g_lconst hF (by decide +kernel : decode cX5_order 39 = .ok (.lconst 0, 1)) rfl ?_
      refine g_lreturn hF hQ (by decide +kernel : decode cX5_order 40 = .ok (.lreturn, 1)) ?_
      exact ⟨rfl, rfl⟩
set_option maxHeartbeats 4000000 in
set_option maxRecDepth 100000 in
theorem n2_X5_order (X : jX) (hX : jxok X) (s : Nat) (hs : s < 8) (m : jM) (hI : MI m) (h : ¬ (inside (mR m s) ∧ once (mR m s))) : Con X yX5_order cX5_order 13 (some .long) 8 [vR 2 51, vI s] m (fun o m' => o = some (vL 0) ∧ m' = mset m 51 2 2) := by
  refine Con.of hX (by decide) (Nat.le_of_ble_eq_true rfl) (fun F hF hQ => ?_)
  have hr := hI.1 s hs
  refine g_aload_n hF (by decide +kernel : decode cX5_order 0 = .ok (.aload_n 0, 1)) rfl ?_
  refine g_iload_n hF (by decide +kernel : decode cX5_order 1 = .ok (.iload_n 1, 1)) rfl ?_
  refine g_callS hF lkX5_42 (y_X5_isSlot X hX _ (by omega) (by omega) _) (by decide +kernel : decode cX5_order 2 = .ok (.invokestatic 42, 3)) (by decide) rfl rfl (Nat.le_of_ble_eq_true rfl) (fun v2 m2 h2 => ?_)
  obtain ⟨rfl, e2⟩ := h2
  obtain rfl := e2.symm
  refine g_if_ne hF (tgt := 12) (by decide +kernel : decode cX5_order 5 = .ok (.ifCond .ne 7, 3)) (by decide) (by omega) (fun c5 => ?_) (fun c5 => ?_)
  · skip
    refine g_aload_n hF (by decide +kernel : decode cX5_order 12 = .ok (.aload_n 0, 1)) rfl ?_
    refine g_iload_n hF (by decide +kernel : decode cX5_order 13 = .ok (.iload_n 1, 1)) rfl ?_
    refine g_callV hF lkX5_84 (c_X5_isIntoItself X hX _ (by omega) _ (by assumption)) (by decide +kernel : decode cX5_order 14 = .ok (.invokevirtual 84, 3)) (by decide) rfl rfl rfl rfl jok51 (Nat.le_of_ble_eq_true rfl) (fun v14 m14 h14 => ?_)
    obtain ⟨rfl, e14⟩ := h14
    obtain rfl := e14.symm
    have hb0 := bI_c (inside (mR m s))
    refine g_if_eq hF (tgt := 28) (by decide +kernel : decode cX5_order 17 = .ok (.ifCond .eq 11, 3)) (by decide) (by omega) (fun c17 => ?_) (fun c17 => ?_)
    · skip
      refine g_iconst hF (by decide +kernel : decode cX5_order 28 = .ok (.iconst 2, 1)) ?_
      refine g_goto hF (tgt := 33) (by decide +kernel : decode cX5_order 29 = .ok (.goto 4, 3)) (by decide) ?_
      refine g_callV hF lkX5_53 (n_X5_fails X hX _ (by decide) _) (by decide +kernel : decode cX5_order 33 = .ok (.invokevirtual 53, 3)) (by decide) rfl rfl rfl rfl jok51 (Nat.le_of_ble_eq_true rfl) (fun v33 m33 h33 => ?_)
      obtain ⟨rfl, e33⟩ := h33
      obtain rfl := e33.symm
      refine g_if_eq hF (tgt := 41) (by decide +kernel : decode cX5_order 36 = .ok (.ifCond .eq 5, 3)) (by decide) (by omega) (fun c36 => ?_) (fun c36 => ?_)
      · skip
        exact absurd c36 (by decide)
      · skip
        refine g_lconst hF (by decide +kernel : decode cX5_order 39 = .ok (.lconst 0, 1)) rfl ?_
        refine g_lreturn hF hQ (by decide +kernel : decode cX5_order 40 = .ok (.lreturn, 1)) ?_
        exact ⟨rfl, rfl⟩
    · skip
      refine g_aload_n hF (by decide +kernel : decode cX5_order 20 = .ok (.aload_n 0, 1)) rfl ?_
      refine g_iload_n hF (by decide +kernel : decode cX5_order 21 = .ok (.iload_n 1, 1)) rfl ?_
      refine g_callV hF lkX5_81 (c_X5_isTwice X hX _ (by omega) _ (by assumption)) (by decide +kernel : decode cX5_order 22 = .ok (.invokevirtual 81, 3)) (by decide) rfl rfl rfl rfl jok51 (Nat.le_of_ble_eq_true rfl) (fun v22 m22 h22 => ?_)
      obtain ⟨rfl, e22⟩ := h22
      obtain rfl := e22.symm
      have hb1 := bI_c (¬ once (mR m s))
      refine g_if_eq hF (tgt := 32) (by decide +kernel : decode cX5_order 25 = .ok (.ifCond .eq 7, 3)) (by decide) (by omega) (fun c25 => ?_) (fun c25 => ?_)
      · skip
        exact absurd ⟨Classical.byContradiction (fun q => c17 (bI_f q)), Classical.byContradiction (fun q => by rw [bI_t q] at c25; exact absurd c25 (by decide))⟩ h
      · skip
        refine g_iconst hF (by decide +kernel : decode cX5_order 28 = .ok (.iconst 2, 1)) ?_
        refine g_goto hF (tgt := 33) (by decide +kernel : decode cX5_order 29 = .ok (.goto 4, 3)) (by decide) ?_
        refine g_callV hF lkX5_53 (n_X5_fails X hX _ (by decide) _) (by decide +kernel : decode cX5_order 33 = .ok (.invokevirtual 53, 3)) (by decide) rfl rfl rfl rfl jok51 (Nat.le_of_ble_eq_true rfl) (fun v33 m33 h33 => ?_)
        obtain ⟨rfl, e33⟩ := h33
        obtain rfl := e33.symm
        refine g_if_eq hF (tgt := 41) (by decide +kernel : decode cX5_order 36 = .ok (.ifCond .eq 5, 3)) (by decide) (by omega) (fun c36 => ?_) (fun c36 => ?_)
        · skip
          exact absurd c36 (by decide)
        · skip
          refine g_lconst hF (by decide +kernel : decode cX5_order 39 = .ok (.lconst 0, 1)) rfl ?_
          refine g_lreturn hF hQ (by decide +kernel : decode cX5_order 40 = .ok (.lreturn, 1)) ?_
          exact ⟨rfl, rfl⟩
  · skip
    exact absurd c5 (by decide)
set_option maxHeartbeats 4000000 in
set_option maxRecDepth 100000 in
theorem c_X5_say (X : jX) (hX : jxok X) (k v : Int) (hk : num k) (hv : num v) (w : Nat) (m : jM) (hw : mwok m w) (hf : w < 60) : Con X yX5_say cX5_say 3 (some .int) 8 [vR 2 51, vI k, vI v] m (fun o m' => o = some (vI (w + 1)) ∧ MRw m (w + 1) (fun z => if z = w then k else m 55 z) (fun z => if z = w then v else m 56 z) m' ∧ m' 51 2 = 0) := by
  refine Con.of hX (by decide) (Nat.le_of_ble_eq_true rfl) (fun F hF hQ => ?_)
  have hk2 : -1 ≤ k ∧ k ≤ 255 := hk
  have hv2 : -1 ≤ v ∧ v ≤ 255 := hv
  refine g_aload_n hF (by decide +kernel : decode cX5_say 0 = .ok (.aload_n 0, 1)) rfl ?_
  refine g_iload_n hF (by decide +kernel : decode cX5_say 1 = .ok (.iload_n 1, 1)) rfl ?_
  refine g_callS hF lkX5_46 (y_X5_isNumber X hX _ (by omega) hk _) (by decide +kernel : decode cX5_say 2 = .ok (.invokestatic 46, 3)) (by decide) rfl rfl (Nat.le_of_ble_eq_true rfl) (fun v2 m2 h2 => ?_)
  obtain ⟨rfl, e2⟩ := h2
  obtain rfl := e2.symm
  refine g_if_eq hF (tgt := 15) (by decide +kernel : decode cX5_say 5 = .ok (.ifCond .eq 10, 3)) (by decide) (by omega) (fun c5 => ?_) (fun c5 => ?_)
  · skip
    exact absurd c5 (by decide)
  · skip
    refine g_iload_n hF (by decide +kernel : decode cX5_say 8 = .ok (.iload_n 2, 1)) rfl ?_
    refine g_callS hF lkX5_46 (y_X5_isNumber X hX _ (by omega) hv _) (by decide +kernel : decode cX5_say 9 = .ok (.invokestatic 46, 3)) (by decide) rfl rfl (Nat.le_of_ble_eq_true rfl) (fun v9 m9 h9 => ?_)
    obtain ⟨rfl, e9⟩ := h9
    obtain rfl := e9.symm
    refine g_if_ne hF (tgt := 19) (by decide +kernel : decode cX5_say 12 = .ok (.ifCond .ne 7, 3)) (by decide) (by omega) (fun c12 => ?_) (fun c12 => ?_)
    · skip
      refine g_aload_n hF (by decide +kernel : decode cX5_say 19 = .ok (.aload_n 0, 1)) rfl ?_
      refine g_getC hF lkX5_99 (by decide +kernel : decode cX5_say 20 = .ok (.getfield 99, 3)) jok51 rfl rfl ?_
      rw [hw.2.1]
      refine g_bipush hF (by decide +kernel : decode cX5_say 23 = .ok (.bipush 60, 2)) (by decide) ?_
      refine g_icmp_ne hF (tgt := 32) (by decide +kernel : decode cX5_say 25 = .ok (.if_icmp .ne 7, 3)) (by decide) (by omega) (by omega) (fun c25 => ?_) (fun c25 => ?_)
      · skip
        refine g_iconst hF (by decide +kernel : decode cX5_say 32 = .ok (.iconst 0, 1)) ?_
        refine g_callV hF lkX5_53 (y_X5_fails X hX _) (by decide +kernel : decode cX5_say 33 = .ok (.invokevirtual 53, 3)) (by decide) rfl rfl rfl rfl jok51 (Nat.le_of_ble_eq_true rfl) (fun v33 m33 h33 => ?_)
        obtain ⟨rfl, e33⟩ := h33
        have S0 : MSm m m33 := by rw [e33]; exact MSm_code m (Or.inl rfl) 0
        have z0 : m33 51 2 = 0 := by rw [e33, mset_at]
        have w0 : m33 51 0 = w := by rw [S0.2.1, hw.2.1]
        refine g_if_eq hF (tgt := 41) (by decide +kernel : decode cX5_say 36 = .ok (.ifCond .eq 5, 3)) (by decide) (by omega) (fun c36 => ?_) (fun c36 => ?_)
        · skip
          refine g_aload_n hF (by decide +kernel : decode cX5_say 41 = .ok (.aload_n 0, 1)) rfl ?_
          refine g_getC hF lkX5_19 (by decide +kernel : decode cX5_say 42 = .ok (.getfield 19, 3)) jok51 rfl rfl ?_
          refine g_aload_n hF (by decide +kernel : decode cX5_say 45 = .ok (.aload_n 0, 1)) rfl ?_
          refine g_getC hF lkX5_99 (by decide +kernel : decode cX5_say 46 = .ok (.getfield 99, 3)) jok51 rfl rfl ?_
          rw [w0]
          refine g_iload_n hF (by decide +kernel : decode cX5_say 49 = .ok (.iload_n 1, 1)) rfl ?_
          refine g_stC hF (n := 60) (by decide +kernel : decode cX5_say 50 = .ok (.iastore, 1)) jrr55 rfl (by omega) ?_
          refine g_aload_n hF (by decide +kernel : decode cX5_say 51 = .ok (.aload_n 0, 1)) rfl ?_
          refine g_getC hF lkX5_22 (by decide +kernel : decode cX5_say 52 = .ok (.getfield 22, 3)) jok51 rfl rfl ?_
          refine g_aload_n hF (by decide +kernel : decode cX5_say 55 = .ok (.aload_n 0, 1)) rfl ?_
          refine g_getC hF lkX5_99 (by decide +kernel : decode cX5_say 56 = .ok (.getfield 99, 3)) jok51 rfl rfl ?_
          have w1 : (mset m33 55 (w : Int) k) 51 0 = w := by rw [mset_ne (by decide), w0]
          rw [w1]
          refine g_iload_n hF (by decide +kernel : decode cX5_say 59 = .ok (.iload_n 2, 1)) rfl ?_
          refine g_stC hF (n := 60) (by decide +kernel : decode cX5_say 60 = .ok (.iastore, 1)) jrr56 rfl (by omega) ?_
          refine g_aload_n hF (by decide +kernel : decode cX5_say 61 = .ok (.aload_n 0, 1)) rfl ?_
          refine g_dup hF (by decide +kernel : decode cX5_say 62 = .ok (.dup, 1)) rfl ?_
          refine g_getC hF lkX5_99 (by decide +kernel : decode cX5_say 63 = .ok (.getfield 99, 3)) jok51 rfl rfl ?_
          have w2 : (mset (mset m33 55 (w : Int) k) 56 (w : Int) v) 51 0 = w := by rw [mset_ne (by decide), w1]
          rw [w2]
          refine g_iconst hF (by decide +kernel : decode cX5_say 66 = .ok (.iconst 1, 1)) ?_
          refine g_iadd hF (by decide +kernel : decode cX5_say 67 = .ok (.iadd, 1)) ?_
          refine g_putC hF lkPX5_99 (by decide +kernel : decode cX5_say 68 = .ok (.putfield 99, 3)) jok51 rfl rfl (Or.inl rfl) ?_
          refine g_aload_n hF (by decide +kernel : decode cX5_say 71 = .ok (.aload_n 0, 1)) rfl ?_
          refine g_getC hF lkX5_99 (by decide +kernel : decode cX5_say 72 = .ok (.getfield 99, 3)) jok51 rfl rfl ?_
          refine g_ireturn hF hQ (by decide +kernel : decode cX5_say 75 = .ok (.ireturn, 1)) ?_
          exact ⟨by rw [mset_at], MR_say S0 rfl, by rw [mset_off (by decide), mset_ne (by decide), mset_ne (by decide), z0]⟩
        · skip
          exact absurd c36 (by decide)
      · skip
        exact absurd c25 (by omega)
    · skip
      exact absurd c12 (by decide)
set_option maxHeartbeats 4000000 in
set_option maxRecDepth 100000 in
theorem c_X5_unsay (X : jX) (hX : jxok X) (k : Int) (hk : num k) (w : Nat) (m : jM) (hw : mwok m w) (hf : w < 60) : Con X yX5_unsay cX5_unsay 2 (some .int) 8 [vR 2 51, vI k] m (fun o m' => o = some (vI (w + 1)) ∧ MRw m (w + 1) (fun z => if z = w then k else m 55 z) (fun z => if z = w then (-2) else m 56 z) m' ∧ m' 51 2 = 0) := by
  refine Con.of hX (by decide) (Nat.le_of_ble_eq_true rfl) (fun F hF hQ => ?_)
  have hk2 : -1 ≤ k ∧ k ≤ 255 := hk
  refine g_aload_n hF (by decide +kernel : decode cX5_unsay 0 = .ok (.aload_n 0, 1)) rfl ?_
  refine g_iload_n hF (by decide +kernel : decode cX5_unsay 1 = .ok (.iload_n 1, 1)) rfl ?_
  refine g_callS hF lkX5_46 (y_X5_isNumber X hX _ (by omega) hk _) (by decide +kernel : decode cX5_unsay 2 = .ok (.invokestatic 46, 3)) (by decide) rfl rfl (Nat.le_of_ble_eq_true rfl) (fun v2 m2 h2 => ?_)
  obtain ⟨rfl, e2⟩ := h2
  obtain rfl := e2.symm
  refine g_if_ne hF (tgt := 12) (by decide +kernel : decode cX5_unsay 5 = .ok (.ifCond .ne 7, 3)) (by decide) (by omega) (fun c5 => ?_) (fun c5 => ?_)
  · skip
    refine g_aload_n hF (by decide +kernel : decode cX5_unsay 12 = .ok (.aload_n 0, 1)) rfl ?_
    refine g_getC hF lkX5_99 (by decide +kernel : decode cX5_unsay 13 = .ok (.getfield 99, 3)) jok51 rfl rfl ?_
    rw [hw.2.1]
    refine g_bipush hF (by decide +kernel : decode cX5_unsay 16 = .ok (.bipush 60, 2)) (by decide) ?_
    refine g_icmp_ne hF (tgt := 25) (by decide +kernel : decode cX5_unsay 18 = .ok (.if_icmp .ne 7, 3)) (by decide) (by omega) (by omega) (fun c18 => ?_) (fun c18 => ?_)
    · skip
      refine g_iconst hF (by decide +kernel : decode cX5_unsay 25 = .ok (.iconst 0, 1)) ?_
      refine g_callV hF lkX5_53 (y_X5_fails X hX _) (by decide +kernel : decode cX5_unsay 26 = .ok (.invokevirtual 53, 3)) (by decide) rfl rfl rfl rfl jok51 (Nat.le_of_ble_eq_true rfl) (fun v26 m26 h26 => ?_)
      obtain ⟨rfl, e26⟩ := h26
      have S0 : MSm m m26 := by rw [e26]; exact MSm_code m (Or.inl rfl) 0
      have z0 : m26 51 2 = 0 := by rw [e26, mset_at]
      have w0 : m26 51 0 = w := by rw [S0.2.1, hw.2.1]
      refine g_if_eq hF (tgt := 34) (by decide +kernel : decode cX5_unsay 29 = .ok (.ifCond .eq 5, 3)) (by decide) (by omega) (fun c29 => ?_) (fun c29 => ?_)
      · skip
        refine g_aload_n hF (by decide +kernel : decode cX5_unsay 34 = .ok (.aload_n 0, 1)) rfl ?_
        refine g_getC hF lkX5_19 (by decide +kernel : decode cX5_unsay 35 = .ok (.getfield 19, 3)) jok51 rfl rfl ?_
        refine g_aload_n hF (by decide +kernel : decode cX5_unsay 38 = .ok (.aload_n 0, 1)) rfl ?_
        refine g_getC hF lkX5_99 (by decide +kernel : decode cX5_unsay 39 = .ok (.getfield 99, 3)) jok51 rfl rfl ?_
        rw [w0]
        refine g_iload_n hF (by decide +kernel : decode cX5_unsay 42 = .ok (.iload_n 1, 1)) rfl ?_
        refine g_stC hF (n := 60) (by decide +kernel : decode cX5_unsay 43 = .ok (.iastore, 1)) jrr55 rfl (by omega) ?_
        refine g_aload_n hF (by decide +kernel : decode cX5_unsay 44 = .ok (.aload_n 0, 1)) rfl ?_
        refine g_getC hF lkX5_22 (by decide +kernel : decode cX5_unsay 45 = .ok (.getfield 22, 3)) jok51 rfl rfl ?_
        refine g_aload_n hF (by decide +kernel : decode cX5_unsay 48 = .ok (.aload_n 0, 1)) rfl ?_
        refine g_getC hF lkX5_99 (by decide +kernel : decode cX5_unsay 49 = .ok (.getfield 99, 3)) jok51 rfl rfl ?_
        have w1 : (mset m26 55 (w : Int) k) 51 0 = w := by rw [mset_ne (by decide), w0]
        rw [w1]
        refine g_bipush hF (by decide +kernel : decode cX5_unsay 52 = .ok (.bipush (-2), 2)) (by decide) ?_
        refine g_stC hF (n := 60) (by decide +kernel : decode cX5_unsay 54 = .ok (.iastore, 1)) jrr56 rfl (by omega) ?_
        refine g_aload_n hF (by decide +kernel : decode cX5_unsay 55 = .ok (.aload_n 0, 1)) rfl ?_
        refine g_dup hF (by decide +kernel : decode cX5_unsay 56 = .ok (.dup, 1)) rfl ?_
        refine g_getC hF lkX5_99 (by decide +kernel : decode cX5_unsay 57 = .ok (.getfield 99, 3)) jok51 rfl rfl ?_
        have w2 : (mset (mset m26 55 (w : Int) k) 56 (w : Int) (-2)) 51 0 = w := by rw [mset_ne (by decide), w1]
        rw [w2]
        refine g_iconst hF (by decide +kernel : decode cX5_unsay 60 = .ok (.iconst 1, 1)) ?_
        refine g_iadd hF (by decide +kernel : decode cX5_unsay 61 = .ok (.iadd, 1)) ?_
        refine g_putC hF lkPX5_99 (by decide +kernel : decode cX5_unsay 62 = .ok (.putfield 99, 3)) jok51 rfl rfl (Or.inl rfl) ?_
        refine g_aload_n hF (by decide +kernel : decode cX5_unsay 65 = .ok (.aload_n 0, 1)) rfl ?_
        refine g_getC hF lkX5_99 (by decide +kernel : decode cX5_unsay 66 = .ok (.getfield 99, 3)) jok51 rfl rfl ?_
        refine g_ireturn hF hQ (by decide +kernel : decode cX5_unsay 69 = .ok (.ireturn, 1)) ?_
        exact ⟨by rw [mset_at], MR_say S0 rfl, by rw [mset_off (by decide), mset_ne (by decide), mset_ne (by decide), z0]⟩
      · skip
        exact absurd c29 (by decide)
    · skip
      exact absurd c18 (by omega)
  · skip
    exact absurd c5 (by decide)
set_option maxHeartbeats 4000000 in
set_option maxRecDepth 100000 in
theorem n1_X5_say (X : jX) (hX : jxok X) (k : Int) (jk : jr k) (v : Int) (jv : jr v) (m : jM) (h : ¬ (num k ∧ num v)) : Con X yX5_say cX5_say 3 (some .int) 8 [vR 2 51, vI k, vI v] m (fun o m' => o = some (vI 0) ∧ m' = mset m 51 2 1) := by
  refine Con.of hX (by decide) (Nat.le_of_ble_eq_true rfl) (fun F hF hQ => ?_)
  refine g_aload_n hF (by decide +kernel : decode cX5_say 0 = .ok (.aload_n 0, 1)) rfl ?_
  refine g_iload_n hF (by decide +kernel : decode cX5_say 1 = .ok (.iload_n 1, 1)) rfl ?_
  rcases Classical.em (num k) with s2 | s2
  · skip
    refine g_callS hF lkX5_46 (y_X5_isNumber X hX _ (by omega) s2 _) (by decide +kernel : decode cX5_say 2 = .ok (.invokestatic 46, 3)) (by decide) rfl rfl (Nat.le_of_ble_eq_true rfl) (fun v2 m2 h2 => ?_)
    obtain ⟨rfl, e2⟩ := h2
    obtain rfl := e2.symm
    refine g_if_eq hF (tgt := 15) (by decide +kernel : decode cX5_say 5 = .ok (.ifCond .eq 10, 3)) (by decide) (by omega) (fun c5 => ?_) (fun c5 => ?_)
    · skip
      exact absurd c5 (by decide)
    · skip
      refine g_iload_n hF (by decide +kernel : decode cX5_say 8 = .ok (.iload_n 2, 1)) rfl ?_
      refine g_callS hF lkX5_46 (n_X5_isNumber X hX _ (by omega) (fun q => h ⟨s2, q⟩) _) (by decide +kernel : decode cX5_say 9 = .ok (.invokestatic 46, 3)) (by decide) rfl rfl (Nat.le_of_ble_eq_true rfl) (fun v9 m9 h9 => ?_)
      obtain ⟨rfl, e9⟩ := h9
      obtain rfl := e9.symm
      refine g_if_ne hF (tgt := 19) (by decide +kernel : decode cX5_say 12 = .ok (.ifCond .ne 7, 3)) (by decide) (by omega) (fun c12 => ?_) (fun c12 => ?_)
      · skip
        exact absurd c12 (by decide)
      · skip
        refine g_iconst hF (by decide +kernel : decode cX5_say 15 = .ok (.iconst 1, 1)) ?_
        refine g_goto hF (tgt := 33) (by decide +kernel : decode cX5_say 16 = .ok (.goto 17, 3)) (by decide) ?_
        refine g_callV hF lkX5_53 (n_X5_fails X hX _ (by decide) _) (by decide +kernel : decode cX5_say 33 = .ok (.invokevirtual 53, 3)) (by decide) rfl rfl rfl rfl jok51 (Nat.le_of_ble_eq_true rfl) (fun v33 m33 h33 => ?_)
        obtain ⟨rfl, e33⟩ := h33
        obtain rfl := e33.symm
        refine g_if_eq hF (tgt := 41) (by decide +kernel : decode cX5_say 36 = .ok (.ifCond .eq 5, 3)) (by decide) (by omega) (fun c36 => ?_) (fun c36 => ?_)
        · skip
          exact absurd c36 (by decide)
        · skip
          refine g_iconst hF (by decide +kernel : decode cX5_say 39 = .ok (.iconst 0, 1)) ?_
          refine g_ireturn hF hQ (by decide +kernel : decode cX5_say 40 = .ok (.ireturn, 1)) ?_
          exact ⟨rfl, rfl⟩
  · skip
    refine g_callS hF lkX5_46 (n_X5_isNumber X hX _ (by omega) s2 _) (by decide +kernel : decode cX5_say 2 = .ok (.invokestatic 46, 3)) (by decide) rfl rfl (Nat.le_of_ble_eq_true rfl) (fun v2 m2 h2 => ?_)
    obtain ⟨rfl, e2⟩ := h2
    obtain rfl := e2.symm
    refine g_if_eq hF (tgt := 15) (by decide +kernel : decode cX5_say 5 = .ok (.ifCond .eq 10, 3)) (by decide) (by omega) (fun c5 => ?_) (fun c5 => ?_)
    · skip
      refine g_iconst hF (by decide +kernel : decode cX5_say 15 = .ok (.iconst 1, 1)) ?_
      refine g_goto hF (tgt := 33) (by decide +kernel : decode cX5_say 16 = .ok (.goto 17, 3)) (by decide) ?_
      refine g_callV hF lkX5_53 (n_X5_fails X hX _ (by decide) _) (by decide +kernel : decode cX5_say 33 = .ok (.invokevirtual 53, 3)) (by decide) rfl rfl rfl rfl jok51 (Nat.le_of_ble_eq_true rfl) (fun v33 m33 h33 => ?_)
      obtain ⟨rfl, e33⟩ := h33
      obtain rfl := e33.symm
      refine g_if_eq hF (tgt := 41) (by decide +kernel : decode cX5_say 36 = .ok (.ifCond .eq 5, 3)) (by decide) (by omega) (fun c36 => ?_) (fun c36 => ?_)
      · skip
        exact absurd c36 (by decide)
      · skip
        refine g_iconst hF (by decide +kernel : decode cX5_say 39 = .ok (.iconst 0, 1)) ?_
        refine g_ireturn hF hQ (by decide +kernel : decode cX5_say 40 = .ok (.ireturn, 1)) ?_
        exact ⟨rfl, rfl⟩
    · skip
      exact absurd c5 (by decide)
set_option maxHeartbeats 4000000 in
set_option maxRecDepth 100000 in
theorem n2_X5_say (X : jX) (hX : jxok X) (k v : Int) (hk : num k) (hv : num v) (m : jM) (h : m 51 0 = 60) : Con X yX5_say cX5_say 3 (some .int) 8 [vR 2 51, vI k, vI v] m (fun o m' => o = some (vI 0) ∧ m' = mset m 51 2 2) := by
  refine Con.of hX (by decide) (Nat.le_of_ble_eq_true rfl) (fun F hF hQ => ?_)
  have hk2 : -1 ≤ k ∧ k ≤ 255 := hk
  have hv2 : -1 ≤ v ∧ v ≤ 255 := hv
  refine g_aload_n hF (by decide +kernel : decode cX5_say 0 = .ok (.aload_n 0, 1)) rfl ?_
  refine g_iload_n hF (by decide +kernel : decode cX5_say 1 = .ok (.iload_n 1, 1)) rfl ?_
  refine g_callS hF lkX5_46 (y_X5_isNumber X hX _ (by omega) hk _) (by decide +kernel : decode cX5_say 2 = .ok (.invokestatic 46, 3)) (by decide) rfl rfl (Nat.le_of_ble_eq_true rfl) (fun v2 m2 h2 => ?_)
  obtain ⟨rfl, e2⟩ := h2
  obtain rfl := e2.symm
  refine g_if_eq hF (tgt := 15) (by decide +kernel : decode cX5_say 5 = .ok (.ifCond .eq 10, 3)) (by decide) (by omega) (fun c5 => ?_) (fun c5 => ?_)
  · skip
    exact absurd c5 (by decide)
  · skip
    refine g_iload_n hF (by decide +kernel : decode cX5_say 8 = .ok (.iload_n 2, 1)) rfl ?_
    refine g_callS hF lkX5_46 (y_X5_isNumber X hX _ (by omega) hv _) (by decide +kernel : decode cX5_say 9 = .ok (.invokestatic 46, 3)) (by decide) rfl rfl (Nat.le_of_ble_eq_true rfl) (fun v9 m9 h9 => ?_)
    obtain ⟨rfl, e9⟩ := h9
    obtain rfl := e9.symm
    refine g_if_ne hF (tgt := 19) (by decide +kernel : decode cX5_say 12 = .ok (.ifCond .ne 7, 3)) (by decide) (by omega) (fun c12 => ?_) (fun c12 => ?_)
    · skip
      refine g_aload_n hF (by decide +kernel : decode cX5_say 19 = .ok (.aload_n 0, 1)) rfl ?_
      refine g_getC hF lkX5_99 (by decide +kernel : decode cX5_say 20 = .ok (.getfield 99, 3)) jok51 rfl rfl ?_
      rw [h]
      refine g_bipush hF (by decide +kernel : decode cX5_say 23 = .ok (.bipush 60, 2)) (by decide) ?_
      refine g_icmp_ne hF (tgt := 32) (by decide +kernel : decode cX5_say 25 = .ok (.if_icmp .ne 7, 3)) (by decide) (by omega) (by omega) (fun c25 => ?_) (fun c25 => ?_)
      · skip
        exact absurd rfl c25
      · skip
        refine g_iconst hF (by decide +kernel : decode cX5_say 28 = .ok (.iconst 2, 1)) ?_
        refine g_goto hF (tgt := 33) (by decide +kernel : decode cX5_say 29 = .ok (.goto 4, 3)) (by decide) ?_
        refine g_callV hF lkX5_53 (n_X5_fails X hX _ (by decide) _) (by decide +kernel : decode cX5_say 33 = .ok (.invokevirtual 53, 3)) (by decide) rfl rfl rfl rfl jok51 (Nat.le_of_ble_eq_true rfl) (fun v33 m33 h33 => ?_)
        obtain ⟨rfl, e33⟩ := h33
        obtain rfl := e33.symm
        refine g_if_eq hF (tgt := 41) (by decide +kernel : decode cX5_say 36 = .ok (.ifCond .eq 5, 3)) (by decide) (by omega) (fun c36 => ?_) (fun c36 => ?_)
        · skip
          exact absurd c36 (by decide)
        · skip
          refine g_iconst hF (by decide +kernel : decode cX5_say 39 = .ok (.iconst 0, 1)) ?_
          refine g_ireturn hF hQ (by decide +kernel : decode cX5_say 40 = .ok (.ireturn, 1)) ?_
          exact ⟨rfl, rfl⟩
    · skip
      exact absurd c12 (by decide)
set_option maxHeartbeats 4000000 in
set_option maxRecDepth 100000 in
theorem n1_X5_unsay (X : jX) (hX : jxok X) (k : Int) (jk : jr k) (m : jM) (h : ¬ num k) : Con X yX5_unsay cX5_unsay 2 (some .int) 8 [vR 2 51, vI k] m (fun o m' => o = some (vI 0) ∧ m' = mset m 51 2 1) := by
  refine Con.of hX (by decide) (Nat.le_of_ble_eq_true rfl) (fun F hF hQ => ?_)
  refine g_aload_n hF (by decide +kernel : decode cX5_unsay 0 = .ok (.aload_n 0, 1)) rfl ?_
  refine g_iload_n hF (by decide +kernel : decode cX5_unsay 1 = .ok (.iload_n 1, 1)) rfl ?_
  refine g_callS hF lkX5_46 (n_X5_isNumber X hX _ (by omega) h _) (by decide +kernel : decode cX5_unsay 2 = .ok (.invokestatic 46, 3)) (by decide) rfl rfl (Nat.le_of_ble_eq_true rfl) (fun v2 m2 h2 => ?_)
  obtain ⟨rfl, e2⟩ := h2
  obtain rfl := e2.symm
  refine g_if_ne hF (tgt := 12) (by decide +kernel : decode cX5_unsay 5 = .ok (.ifCond .ne 7, 3)) (by decide) (by omega) (fun c5 => ?_) (fun c5 => ?_)
  · skip
    exact absurd c5 (by decide)
  · skip
    refine g_iconst hF (by decide +kernel : decode cX5_unsay 8 = .ok (.iconst 1, 1)) ?_
    refine g_goto hF (tgt := 26) (by decide +kernel : decode cX5_unsay 9 = .ok (.goto 17, 3)) (by decide) ?_
    refine g_callV hF lkX5_53 (n_X5_fails X hX _ (by decide) _) (by decide +kernel : decode cX5_unsay 26 = .ok (.invokevirtual 53, 3)) (by decide) rfl rfl rfl rfl jok51 (Nat.le_of_ble_eq_true rfl) (fun v26 m26 h26 => ?_)
    obtain ⟨rfl, e26⟩ := h26
    obtain rfl := e26.symm
    refine g_if_eq hF (tgt := 34) (by decide +kernel : decode cX5_unsay 29 = .ok (.ifCond .eq 5, 3)) (by decide) (by omega) (fun c29 => ?_) (fun c29 => ?_)
    · skip
      exact absurd c29 (by decide)
    · skip
      refine g_iconst hF (by decide +kernel : decode cX5_unsay 32 = .ok (.iconst 0, 1)) ?_
      refine g_ireturn hF hQ (by decide +kernel : decode cX5_unsay 33 = .ok (.ireturn, 1)) ?_
      exact ⟨rfl, rfl⟩
set_option maxHeartbeats 4000000 in
set_option maxRecDepth 100000 in
theorem n2_X5_unsay (X : jX) (hX : jxok X) (k : Int) (hk : num k) (m : jM) (h : m 51 0 = 60) : Con X yX5_unsay cX5_unsay 2 (some .int) 8 [vR 2 51, vI k] m (fun o m' => o = some (vI 0) ∧ m' = mset m 51 2 2) := by
  refine Con.of hX (by decide) (Nat.le_of_ble_eq_true rfl) (fun F hF hQ => ?_)
  have hk2 : -1 ≤ k ∧ k ≤ 255 := hk
  refine g_aload_n hF (by decide +kernel : decode cX5_unsay 0 = .ok (.aload_n 0, 1)) rfl ?_
  refine g_iload_n hF (by decide +kernel : decode cX5_unsay 1 = .ok (.iload_n 1, 1)) rfl ?_
  refine g_callS hF lkX5_46 (y_X5_isNumber X hX _ (by omega) hk _) (by decide +kernel : decode cX5_unsay 2 = .ok (.invokestatic 46, 3)) (by decide) rfl rfl (Nat.le_of_ble_eq_true rfl) (fun v2 m2 h2 => ?_)
  obtain ⟨rfl, e2⟩ := h2
  obtain rfl := e2.symm
  refine g_if_ne hF (tgt := 12) (by decide +kernel : decode cX5_unsay 5 = .ok (.ifCond .ne 7, 3)) (by decide) (by omega) (fun c5 => ?_) (fun c5 => ?_)
  · skip
    refine g_aload_n hF (by decide +kernel : decode cX5_unsay 12 = .ok (.aload_n 0, 1)) rfl ?_
    refine g_getC hF lkX5_99 (by decide +kernel : decode cX5_unsay 13 = .ok (.getfield 99, 3)) jok51 rfl rfl ?_
    rw [h]
    refine g_bipush hF (by decide +kernel : decode cX5_unsay 16 = .ok (.bipush 60, 2)) (by decide) ?_
    refine g_icmp_ne hF (tgt := 25) (by decide +kernel : decode cX5_unsay 18 = .ok (.if_icmp .ne 7, 3)) (by decide) (by omega) (by omega) (fun c18 => ?_) (fun c18 => ?_)
    · skip
      exact absurd rfl c18
    · skip
      refine g_iconst hF (by decide +kernel : decode cX5_unsay 21 = .ok (.iconst 2, 1)) ?_
      refine g_goto hF (tgt := 26) (by decide +kernel : decode cX5_unsay 22 = .ok (.goto 4, 3)) (by decide) ?_
      refine g_callV hF lkX5_53 (n_X5_fails X hX _ (by decide) _) (by decide +kernel : decode cX5_unsay 26 = .ok (.invokevirtual 53, 3)) (by decide) rfl rfl rfl rfl jok51 (Nat.le_of_ble_eq_true rfl) (fun v26 m26 h26 => ?_)
      obtain ⟨rfl, e26⟩ := h26
      obtain rfl := e26.symm
      refine g_if_eq hF (tgt := 34) (by decide +kernel : decode cX5_unsay 29 = .ok (.ifCond .eq 5, 3)) (by decide) (by omega) (fun c29 => ?_) (fun c29 => ?_)
      · skip
        exact absurd c29 (by decide)
      · skip
        refine g_iconst hF (by decide +kernel : decode cX5_unsay 32 = .ok (.iconst 0, 1)) ?_
        refine g_ireturn hF hQ (by decide +kernel : decode cX5_unsay 33 = .ok (.ireturn, 1)) ?_
        exact ⟨rfl, rfl⟩
  · skip
    exact absurd c5 (by decide)
set_option maxHeartbeats 4000000 in
set_option maxRecDepth 100000 in
theorem c_X5_hush (X : jX) (hX : jxok X) (w : Nat) (m : jM) (hw : mwok m w) : Con X yX5_hush cX5_hush 2 (some .int) 8 [vR 2 51] m (fun o m' => o = some (vI w) ∧ MRw m 0 (m 55) (m 56) m' ∧ m' 51 2 = 0) := by
  refine Con.of hX (by decide) (Nat.le_of_ble_eq_true rfl) (fun F hF hQ => ?_)
  refine g_aload_n hF (by decide +kernel : decode cX5_hush 0 = .ok (.aload_n 0, 1)) rfl ?_
  refine g_iconst hF (by decide +kernel : decode cX5_hush 1 = .ok (.iconst 0, 1)) ?_
  refine g_putC hF lkPX5_31 (by decide +kernel : decode cX5_hush 2 = .ok (.putfield 31, 3)) jok51 rfl rfl (Or.inl rfl) ?_
  refine g_aload_n hF (by decide +kernel : decode cX5_hush 5 = .ok (.aload_n 0, 1)) rfl ?_
  refine g_getC hF lkX5_99 (by decide +kernel : decode cX5_hush 6 = .ok (.getfield 99, 3)) jok51 rfl rfl ?_
  refine g_istore_n hF (by decide +kernel : decode cX5_hush 9 = .ok (.istore_n 1, 1)) (by decide) ?_
  refine g_aload_n hF (by decide +kernel : decode cX5_hush 10 = .ok (.aload_n 0, 1)) rfl ?_
  refine g_iconst hF (by decide +kernel : decode cX5_hush 11 = .ok (.iconst 0, 1)) ?_
  refine g_putC hF lkPX5_99 (by decide +kernel : decode cX5_hush 12 = .ok (.putfield 99, 3)) jok51 rfl rfl (Or.inl rfl) ?_
  refine g_iload_n hF (by decide +kernel : decode cX5_hush 15 = .ok (.iload_n 1, 1)) rfl ?_
  refine g_ireturn hF hQ (by decide +kernel : decode cX5_hush 16 = .ok (.ireturn, 1)) ?_
  exact ⟨by rw [mset_off (by decide), hw.2.1], ⟨fun j a b c d e => by rw [mset_ne a, mset_ne a], by rw [mset_off (by decide), mset_off (by decide)], by rw [mset_at]; rfl, fun z a b => absurd b (by omega)⟩, by rw [mset_off (by decide), mset_at]⟩
set_option maxHeartbeats 4000000 in
set_option maxRecDepth 100000 in
theorem c_X5_stir (X : jX) (hX : jxok X) (s : Int) (hs : 1 ≤ s ∧ s ≤ 2147483646) (w : Nat) (m : jM) (hw : mwok m w) : Con X yX5_stir cX5_stir 9 (some .int) 8 [vR 2 51, vI s] m (fun o m' => o = some (vI (stirN w s (m 55) (m 56) w).2.2.2) ∧ MRw m w (stirN w s (m 55) (m 56) w).2.1 (stirN w s (m 55) (m 56) w).2.2.1 m' ∧ m' 51 2 = 0) := by
  refine Con.of hX (by decide) (Nat.le_of_ble_eq_true rfl) (fun F hF hQ => ?_)
  have hw60 := hw.1
  refine g_aload_n hF (by decide +kernel : decode cX5_stir 0 = .ok (.aload_n 0, 1)) rfl ?_
  refine g_iload_n hF (by decide +kernel : decode cX5_stir 1 = .ok (.iload_n 1, 1)) rfl ?_
  refine g_iconst hF (by decide +kernel : decode cX5_stir 2 = .ok (.iconst 1, 1)) ?_
  refine g_ldc hF kiX5_102 (by decide +kernel : decode cX5_stir 3 = .ok (.ldc 102, 2)) ?_
  refine g_callS hF lkX5_35 (y_X5_in X hX _ _ _ (by omega) (by omega) (by omega) (by omega) _) (by decide +kernel : decode cX5_stir 5 = .ok (.invokestatic 35, 3)) (by decide) rfl rfl (Nat.le_of_ble_eq_true rfl) (fun v5 m5 h5 => ?_)
  obtain ⟨rfl, e5⟩ := h5
  obtain rfl := e5.symm
  refine g_if_eq hF (tgt := 15) (by decide +kernel : decode cX5_stir 8 = .ok (.ifCond .eq 7, 3)) (by decide) (by omega) (fun c8 => ?_) (fun c8 => ?_)
  · skip
    exact absurd c8 (by decide)
  · skip
    refine g_iconst hF (by decide +kernel : decode cX5_stir 11 = .ok (.iconst 0, 1)) ?_
    refine g_goto hF (tgt := 16) (by decide +kernel : decode cX5_stir 12 = .ok (.goto 4, 3)) (by decide) ?_
    refine g_callV hF lkX5_53 (y_X5_fails X hX _) (by decide +kernel : decode cX5_stir 16 = .ok (.invokevirtual 53, 3)) (by decide) rfl rfl rfl rfl jok51 (Nat.le_of_ble_eq_true rfl) (fun v16 m16 h16 => ?_)
    obtain ⟨rfl, e16⟩ := h16
    have S0 : MSm m m16 := by rw [e16]; exact MSm_code m (Or.inl rfl) 0
    have z0 : m16 51 2 = 0 := by rw [e16, mset_at]
    have w0 : m16 51 0 = w := by rw [S0.2.1, hw.2.1]
    refine g_if_eq hF (tgt := 24) (by decide +kernel : decode cX5_stir 19 = .ok (.ifCond .eq 5, 3)) (by decide) (by omega) (fun c19 => ?_) (fun c19 => ?_)
    · skip
      refine g_iconst hF (by decide +kernel : decode cX5_stir 24 = .ok (.iconst 0, 1)) ?_
      refine g_istore_n hF (by decide +kernel : decode cX5_stir 25 = .ok (.istore_n 2, 1)) (by decide) ?_
      refine g_iload_n hF (by decide +kernel : decode cX5_stir 26 = .ok (.iload_n 1, 1)) rfl ?_
      refine g_i2l hF (by decide +kernel : decode cX5_stir 27 = .ok (.i2l, 1)) (by omega) ?_
      refine g_lstore_n hF (by decide +kernel : decode cX5_stir 28 = .ok (.lstore_n 3, 1)) (by decide) ?_
      refine g_iconst hF (by decide +kernel : decode cX5_stir 29 = .ok (.iconst 0, 1)) ?_
      refine g_istore hF (by decide +kernel : decode cX5_stir 30 = .ok (.istore 5, 2)) (by decide) ?_
      have loop : ∀ (n i : Nat) (z c : Int) (K V : Int → Int) (mm : jM), i ≤ w → w + 1 ≤ i + n → stirN w s (m 55) (m 56) i = (z, K, V, c) → 0 ≤ z ∧ z < 2147483647 → kin K (-1) w → mm = mrow (mrow m16 55 K) 56 V → jG F X mm 32 [(0, vR 2 51), (1, vI s), (2, vI c), (3, vL z), (5, vI i)] [] := by
        intro n
        induction n with
        | zero => intro i z c K V mm h1 h2; exact absurd h2 (by omega)
        | succ n ih =>
          intro i z c K V mm h1 h2 hq hz hK hmm
          have e51 : mm 51 0 = w := by rw [hmm, mrow_ne (by decide), mrow_ne (by decide), w0]
          have e55 : mm 55 = K := by rw [hmm, mrow_ne (by decide), mrow_at]
          have hz2 := tmod_b (a := 48271 * z) (b := 2147483647) (by omega) (by decide)
          refine g_iload hF (by decide +kernel : decode cX5_stir 32 = .ok (.iload 5, 2)) rfl ?_
          refine g_aload_n hF (by decide +kernel : decode cX5_stir 34 = .ok (.aload_n 0, 1)) rfl ?_
          refine g_getC hF lkX5_99 (by decide +kernel : decode cX5_stir 35 = .ok (.getfield 99, 3)) jok51 rfl rfl ?_
          rw [e51]
          refine g_icmp_ge hF (tgt := 175) (by decide +kernel : decode cX5_stir 38 = .ok (.if_icmp .ge 137, 3)) (by decide) (by omega) (by omega) (fun c38 => ?_) (fun c38 => ?_)
          · skip
            refine g_iload_n hF (by decide +kernel : decode cX5_stir 175 = .ok (.iload_n 2, 1)) rfl ?_
            refine g_ireturn hF hQ (by decide +kernel : decode cX5_stir 176 = .ok (.ireturn, 1)) ?_
            obtain rfl : i = w := by omega
            rw [hq]
            exact ⟨rfl, MR_stir S0 hw.2.1 hmm, by rw [hmm, mrow_ne (by decide), mrow_ne (by decide), z0]⟩
          · skip
            have hz3 := tmod_b (a := (48271 * z).tmod 2147483647) (b := (w : Int)) (by omega) (by omega)
            refine g_ldc2 hF klX5_103 (by decide +kernel : decode cX5_stir 41 = .ok (.ldc2_w 103, 3)) ?_
            refine g_lload_n hF (by decide +kernel : decode cX5_stir 44 = .ok (.lload_n 3, 1)) rfl ?_
            refine g_lmul hF (by decide +kernel : decode cX5_stir 45 = .ok (.lmul, 1)) ?_
            refine g_ldc2 hF klX5_105 (by decide +kernel : decode cX5_stir 46 = .ok (.ldc2_w 105, 3)) ?_
            refine g_lrem hF (by decide +kernel : decode cX5_stir 49 = .ok (.lrem, 1)) (by omega) (by omega) ?_
            refine g_lstore_n hF (by decide +kernel : decode cX5_stir 50 = .ok (.lstore_n 3, 1)) (by decide) ?_
            refine g_lload_n hF (by decide +kernel : decode cX5_stir 51 = .ok (.lload_n 3, 1)) rfl ?_
            refine g_aload_n hF (by decide +kernel : decode cX5_stir 52 = .ok (.aload_n 0, 1)) rfl ?_
            refine g_getC hF lkX5_99 (by decide +kernel : decode cX5_stir 53 = .ok (.getfield 99, 3)) jok51 rfl rfl ?_
            rw [e51]
            refine g_i2l hF (by decide +kernel : decode cX5_stir 56 = .ok (.i2l, 1)) (by omega) ?_
            refine g_lrem hF (by decide +kernel : decode cX5_stir 57 = .ok (.lrem, 1)) (by omega) (by omega) ?_
            refine g_l2i hF (by decide +kernel : decode cX5_stir 58 = .ok (.l2i, 1)) ?_
            refine g_istore hF (by decide +kernel : decode cX5_stir 59 = .ok (.istore 6, 2)) (by decide) ?_
            refine g_iload hF (by decide +kernel : decode cX5_stir 61 = .ok (.iload 6, 2)) rfl ?_
            refine g_iconst hF (by decide +kernel : decode cX5_stir 63 = .ok (.iconst 1, 1)) ?_
            refine g_iadd hF (by decide +kernel : decode cX5_stir 64 = .ok (.iadd, 1)) ?_
            refine g_aload_n hF (by decide +kernel : decode cX5_stir 65 = .ok (.aload_n 0, 1)) rfl ?_
            refine g_getC hF lkX5_99 (by decide +kernel : decode cX5_stir 66 = .ok (.getfield 99, 3)) jok51 rfl rfl ?_
            rw [e51]
            refine g_icmp_ge hF (tgt := 169) (by decide +kernel : decode cX5_stir 69 = .ok (.if_icmp .ge 100, 3)) (by decide) (by omega) (by omega) (fun c69 => ?_) (fun c69 => ?_)
            · skip
              refine g_iinc hF (by decide +kernel : decode cX5_stir 169 = .ok (.iinc 5 1, 3)) rfl (by decide) ?_
              refine g_goto hF (tgt := 32) (by decide +kernel : decode cX5_stir 172 = .ok (.goto (-140), 3)) (by decide) ?_
              refine g_take 6 ?_
              exact ih (i + 1) _ _ K V _ (by omega) (by omega) (by rw [stirN_s, hq, stir_no rfl rfl (fun q => absurd q.1 (by omega))]) hz2 hK hmm
            · skip
              have k1 := hK _ hz3.1 (by omega)
              have k2 := hK (((48271 * z).tmod 2147483647).tmod (w : Int) + 1) (by omega) (by omega)
              rw [← e55] at k1 k2
              refine g_aload_n hF (by decide +kernel : decode cX5_stir 72 = .ok (.aload_n 0, 1)) rfl ?_
              refine g_getC hF lkX5_19 (by decide +kernel : decode cX5_stir 73 = .ok (.getfield 19, 3)) jok51 rfl rfl ?_
              refine g_iload hF (by decide +kernel : decode cX5_stir 76 = .ok (.iload 6, 2)) rfl ?_
              refine g_ldC hF (n := 60) (by decide +kernel : decode cX5_stir 78 = .ok (.iaload, 1)) jrr55 rfl (by omega) ?_
              refine g_aload_n hF (by decide +kernel : decode cX5_stir 79 = .ok (.aload_n 0, 1)) rfl ?_
              refine g_getC hF lkX5_19 (by decide +kernel : decode cX5_stir 80 = .ok (.getfield 19, 3)) jok51 rfl rfl ?_
              refine g_iload hF (by decide +kernel : decode cX5_stir 83 = .ok (.iload 6, 2)) rfl ?_
              refine g_iconst hF (by decide +kernel : decode cX5_stir 85 = .ok (.iconst 1, 1)) ?_
              refine g_iadd hF (by decide +kernel : decode cX5_stir 86 = .ok (.iadd, 1)) ?_
              refine g_ldC hF (n := 60) (by decide +kernel : decode cX5_stir 87 = .ok (.iaload, 1)) jrr55 rfl (by omega) ?_
              refine g_icmp_ne hF (tgt := 94) (by decide +kernel : decode cX5_stir 88 = .ok (.if_icmp .ne 6, 3)) (by decide) (by omega) (by omega) (fun c88 => ?_) (fun c88 => ?_)
              · skip
                refine g_aload_n hF (by decide +kernel : decode cX5_stir 94 = .ok (.aload_n 0, 1)) rfl ?_
                refine g_getC hF lkX5_19 (by decide +kernel : decode cX5_stir 95 = .ok (.getfield 19, 3)) jok51 rfl rfl ?_
                refine g_iload hF (by decide +kernel : decode cX5_stir 98 = .ok (.iload 6, 2)) rfl ?_
                refine g_ldC hF (n := 60) (by decide +kernel : decode cX5_stir 100 = .ok (.iaload, 1)) jrr55 rfl (by omega) ?_
                refine g_istore hF (by decide +kernel : decode cX5_stir 101 = .ok (.istore 7, 2)) (by decide) ?_
                refine g_aload_n hF (by decide +kernel : decode cX5_stir 103 = .ok (.aload_n 0, 1)) rfl ?_
                refine g_getC hF lkX5_22 (by decide +kernel : decode cX5_stir 104 = .ok (.getfield 22, 3)) jok51 rfl rfl ?_
                refine g_iload hF (by decide +kernel : decode cX5_stir 107 = .ok (.iload 6, 2)) rfl ?_
                refine g_ldC hF (n := 60) (by decide +kernel : decode cX5_stir 109 = .ok (.iaload, 1)) jrr56 rfl (by omega) ?_
                refine g_istore hF (by decide +kernel : decode cX5_stir 110 = .ok (.istore 8, 2)) (by decide) ?_
                refine g_aload_n hF (by decide +kernel : decode cX5_stir 112 = .ok (.aload_n 0, 1)) rfl ?_
                refine g_getC hF lkX5_19 (by decide +kernel : decode cX5_stir 113 = .ok (.getfield 19, 3)) jok51 rfl rfl ?_
                refine g_iload hF (by decide +kernel : decode cX5_stir 116 = .ok (.iload 6, 2)) rfl ?_
                refine g_aload_n hF (by decide +kernel : decode cX5_stir 118 = .ok (.aload_n 0, 1)) rfl ?_
                refine g_getC hF lkX5_19 (by decide +kernel : decode cX5_stir 119 = .ok (.getfield 19, 3)) jok51 rfl rfl ?_
                refine g_iload hF (by decide +kernel : decode cX5_stir 122 = .ok (.iload 6, 2)) rfl ?_
                refine g_iconst hF (by decide +kernel : decode cX5_stir 124 = .ok (.iconst 1, 1)) ?_
                refine g_iadd hF (by decide +kernel : decode cX5_stir 125 = .ok (.iadd, 1)) ?_
                refine g_ldC hF (n := 60) (by decide +kernel : decode cX5_stir 126 = .ok (.iaload, 1)) jrr55 rfl (by omega) ?_
                refine g_stC hF (n := 60) (by decide +kernel : decode cX5_stir 127 = .ok (.iastore, 1)) jrr55 rfl (by omega) ?_
                refine g_aload_n hF (by decide +kernel : decode cX5_stir 128 = .ok (.aload_n 0, 1)) rfl ?_
                refine g_getC hF lkX5_22 (by decide +kernel : decode cX5_stir 129 = .ok (.getfield 22, 3)) jok51 rfl rfl ?_
                refine g_iload hF (by decide +kernel : decode cX5_stir 132 = .ok (.iload 6, 2)) rfl ?_
                refine g_aload_n hF (by decide +kernel : decode cX5_stir 134 = .ok (.aload_n 0, 1)) rfl ?_
                refine g_getC hF lkX5_22 (by decide +kernel : decode cX5_stir 135 = .ok (.getfield 22, 3)) jok51 rfl rfl ?_
                refine g_iload hF (by decide +kernel : decode cX5_stir 138 = .ok (.iload 6, 2)) rfl ?_
                refine g_iconst hF (by decide +kernel : decode cX5_stir 140 = .ok (.iconst 1, 1)) ?_
                refine g_iadd hF (by decide +kernel : decode cX5_stir 141 = .ok (.iadd, 1)) ?_
                refine g_ldC hF (n := 60) (by decide +kernel : decode cX5_stir 142 = .ok (.iaload, 1)) jrr56 rfl (by omega) ?_
                refine g_stC hF (n := 60) (by decide +kernel : decode cX5_stir 143 = .ok (.iastore, 1)) jrr56 rfl (by omega) ?_
                refine g_aload_n hF (by decide +kernel : decode cX5_stir 144 = .ok (.aload_n 0, 1)) rfl ?_
                refine g_getC hF lkX5_19 (by decide +kernel : decode cX5_stir 145 = .ok (.getfield 19, 3)) jok51 rfl rfl ?_
                refine g_iload hF (by decide +kernel : decode cX5_stir 148 = .ok (.iload 6, 2)) rfl ?_
                refine g_iconst hF (by decide +kernel : decode cX5_stir 150 = .ok (.iconst 1, 1)) ?_
                refine g_iadd hF (by decide +kernel : decode cX5_stir 151 = .ok (.iadd, 1)) ?_
                refine g_iload hF (by decide +kernel : decode cX5_stir 152 = .ok (.iload 7, 2)) rfl ?_
                refine g_stC hF (n := 60) (by decide +kernel : decode cX5_stir 154 = .ok (.iastore, 1)) jrr55 rfl (by omega) ?_
                refine g_aload_n hF (by decide +kernel : decode cX5_stir 155 = .ok (.aload_n 0, 1)) rfl ?_
                refine g_getC hF lkX5_22 (by decide +kernel : decode cX5_stir 156 = .ok (.getfield 22, 3)) jok51 rfl rfl ?_
                refine g_iload hF (by decide +kernel : decode cX5_stir 159 = .ok (.iload 6, 2)) rfl ?_
                refine g_iconst hF (by decide +kernel : decode cX5_stir 161 = .ok (.iconst 1, 1)) ?_
                refine g_iadd hF (by decide +kernel : decode cX5_stir 162 = .ok (.iadd, 1)) ?_
                refine g_iload hF (by decide +kernel : decode cX5_stir 163 = .ok (.iload 8, 2)) rfl ?_
                refine g_stC hF (n := 60) (by decide +kernel : decode cX5_stir 165 = .ok (.iastore, 1)) jrr56 rfl (by omega) ?_
                refine g_iinc hF (by decide +kernel : decode cX5_stir 166 = .ok (.iinc 2 1, 3)) rfl (by decide) ?_
                refine g_iinc hF (by decide +kernel : decode cX5_stir 169 = .ok (.iinc 5 1, 3)) rfl (by decide) ?_
                refine g_goto hF (tgt := 32) (by decide +kernel : decode cX5_stir 172 = .ok (.goto (-140), 3)) (by decide) ?_
                refine g_take 6 ?_
                exact ih (i + 1) _ _ _ _ _ (by omega) (by omega) (by rw [stirN_s, hq, stir_go rfl rfl ⟨by omega, by rw [← e55]; exact c88⟩]) hz2 (kin_swp hK hz3.1 (by omega)) (by rw [swap_mem2]; generalize ((48271 * z).tmod 2147483647).tmod (w : Int) = J; rw [hmm]; exact swap_rows2)
              · skip
                refine g_goto hF (tgt := 169) (by decide +kernel : decode cX5_stir 91 = .ok (.goto 78, 3)) (by decide) ?_
                refine g_iinc hF (by decide +kernel : decode cX5_stir 169 = .ok (.iinc 5 1, 3)) rfl (by decide) ?_
                refine g_goto hF (tgt := 32) (by decide +kernel : decode cX5_stir 172 = .ok (.goto (-140), 3)) (by decide) ?_
                refine g_take 6 ?_
                exact ih (i + 1) _ _ K V _ (by omega) (by omega) (by rw [stirN_s, hq, stir_no rfl rfl (fun q => by rw [← e55] at q; exact q.2 c88)]) hz2 hK hmm
      exact loop (w + 1) 0 s 0 (m 55) (m 56) _ (by omega) (by omega) (stirN_0 _ _ _ _) (by omega) (fun z h0 h1 => (hw.2.2 z h0 h1).1) (by rw [show m 55 = m16 55 from (S0.1 55 (by decide) (by decide) (by decide)).symm, show m 56 = (mrow m16 55 (m16 55)) 56 from by rw [mrow_self]; exact (S0.1 56 (by decide) (by decide) (by decide)).symm, mrow_self, mrow_self])
    · skip
      exact absurd c19 (by decide)
set_option maxHeartbeats 4000000 in
set_option maxRecDepth 100000 in
theorem n1_X5_stir (X : jX) (hX : jxok X) (s : Int) (js : jr s) (m : jM) (h : ¬ (1 ≤ s ∧ s ≤ 2147483646)) : Con X yX5_stir cX5_stir 9 (some .int) 8 [vR 2 51, vI s] m (fun o m' => o = some (vI 0) ∧ m' = mset m 51 2 1) := by
  refine Con.of hX (by decide) (Nat.le_of_ble_eq_true rfl) (fun F hF hQ => ?_)
  refine g_aload_n hF (by decide +kernel : decode cX5_stir 0 = .ok (.aload_n 0, 1)) rfl ?_
  refine g_iload_n hF (by decide +kernel : decode cX5_stir 1 = .ok (.iload_n 1, 1)) rfl ?_
  refine g_iconst hF (by decide +kernel : decode cX5_stir 2 = .ok (.iconst 1, 1)) ?_
  refine g_ldc hF kiX5_102 (by decide +kernel : decode cX5_stir 3 = .ok (.ldc 102, 2)) ?_
  refine g_callS hF lkX5_35 (n_X5_in X hX _ _ _ (by omega) (by omega) (by omega) (by omega) _) (by decide +kernel : decode cX5_stir 5 = .ok (.invokestatic 35, 3)) (by decide) rfl rfl (Nat.le_of_ble_eq_true rfl) (fun v5 m5 h5 => ?_)
  obtain ⟨rfl, e5⟩ := h5
  obtain rfl := e5.symm
  refine g_if_eq hF (tgt := 15) (by decide +kernel : decode cX5_stir 8 = .ok (.ifCond .eq 7, 3)) (by decide) (by omega) (fun c8 => ?_) (fun c8 => ?_)
  · skip
    refine g_iconst hF (by decide +kernel : decode cX5_stir 15 = .ok (.iconst 1, 1)) ?_
    refine g_callV hF lkX5_53 (n_X5_fails X hX _ (by decide) _) (by decide +kernel : decode cX5_stir 16 = .ok (.invokevirtual 53, 3)) (by decide) rfl rfl rfl rfl jok51 (Nat.le_of_ble_eq_true rfl) (fun v16 m16 h16 => ?_)
    obtain ⟨rfl, e16⟩ := h16
    obtain rfl := e16.symm
    refine g_if_eq hF (tgt := 24) (by decide +kernel : decode cX5_stir 19 = .ok (.ifCond .eq 5, 3)) (by decide) (by omega) (fun c19 => ?_) (fun c19 => ?_)
    · skip
      exact absurd c19 (by decide)
    · skip
      refine g_iconst hF (by decide +kernel : decode cX5_stir 22 = .ok (.iconst 0, 1)) ?_
      refine g_ireturn hF hQ (by decide +kernel : decode cX5_stir 23 = .ok (.ireturn, 1)) ?_
      exact ⟨rfl, rfl⟩
  · skip
    exact absurd c8 (by decide)
set_option maxHeartbeats 4000000 in
set_option maxRecDepth 100000 in
theorem c_X5_play (X : jX) (hX : jxok X) (u : Nat) (hu : u < 8) (w : Nat) (m : jM) (hI : MI m) (hw : mwok m w) : Con X yX5_play cX5_play 3 (some .int) 8 [vR 2 51, vI u] m (fun o m' => o = some (vI (cnt (playN (m 55) (m 56) w))) ∧ MW (mset m 51 2 0) u (playN (m 55) (m 56) w) m') := by
  refine Con.of hX (by decide) (Nat.le_of_ble_eq_true rfl) (fun F hF hQ => ?_)
  have hw60 := hw.1
  refine g_aload_n hF (by decide +kernel : decode cX5_play 0 = .ok (.aload_n 0, 1)) rfl ?_
  refine g_iload_n hF (by decide +kernel : decode cX5_play 1 = .ok (.iload_n 1, 1)) rfl ?_
  refine g_callS hF lkX5_42 (y_X5_isSlot X hX _ (by omega) (by omega) _) (by decide +kernel : decode cX5_play 2 = .ok (.invokestatic 42, 3)) (by decide) rfl rfl (Nat.le_of_ble_eq_true rfl) (fun v2 m2 h2 => ?_)
  obtain ⟨rfl, e2⟩ := h2
  obtain rfl := e2.symm
  refine g_if_eq hF (tgt := 12) (by decide +kernel : decode cX5_play 5 = .ok (.ifCond .eq 7, 3)) (by decide) (by omega) (fun c5 => ?_) (fun c5 => ?_)
  · skip
    exact absurd c5 (by decide)
  · skip
    refine g_iconst hF (by decide +kernel : decode cX5_play 8 = .ok (.iconst 0, 1)) ?_
    refine g_goto hF (tgt := 13) (by decide +kernel : decode cX5_play 9 = .ok (.goto 4, 3)) (by decide) ?_
    refine g_callV hF lkX5_53 (y_X5_fails X hX _) (by decide +kernel : decode cX5_play 13 = .ok (.invokevirtual 53, 3)) (by decide) rfl rfl rfl rfl jok51 (Nat.le_of_ble_eq_true rfl) (fun v13 m13 h13 => ?_)
    obtain ⟨rfl, e13⟩ := h13
    have S0 : MSm m m13 := by rw [e13]; exact MSm_code m (Or.inl rfl) 0
    have I0 := MI_S hI S0
    have z0 : m13 51 2 = 0 := by rw [e13, mset_at]
    have r0 : ∀ t : Nat, mR m13 t = mR m t := fun t => mR_52 (S0.1 52 (by decide) (by decide) (by decide)) t
    have w0 : m13 51 0 = w := by rw [S0.2.1, hw.2.1]
    refine g_if_eq hF (tgt := 21) (by decide +kernel : decode cX5_play 16 = .ok (.ifCond .eq 5, 3)) (by decide) (by omega) (fun c16 => ?_) (fun c16 => ?_)
    · skip
      refine g_iconst hF (by decide +kernel : decode cX5_play 21 = .ok (.iconst 0, 1)) ?_
      refine g_istore_n hF (by decide +kernel : decode cX5_play 22 = .ok (.istore_n 2, 1)) (by decide) ?_
      have loop : ∀ (n i : Nat) (mm : jM), i ≤ 257 → 258 ≤ i + n → mm = mrow m13 53 (upto (fun _ => -2) (m13 53) i) → jG F X mm 23 [(0, vR 2 51), (1, vI u), (2, vI i)] [] := by
        intro n
        induction n with
        | zero => intro i mm h1 h2; exact absurd h2 (by omega)
        | succ n ih =>
          intro i mm h1 h2 hc0
          refine g_iload_n hF (by decide +kernel : decode cX5_play 23 = .ok (.iload_n 2, 1)) rfl ?_
          refine g_sipush hF (by decide +kernel : decode cX5_play 24 = .ok (.sipush 257, 3)) (by decide) ?_
          refine g_icmp_ge hF (tgt := 44) (by decide +kernel : decode cX5_play 27 = .ok (.if_icmp .ge 17, 3)) (by decide) (by omega) (by omega) (fun c27 => ?_) (fun c27 => ?_)
          · skip
            refine jG_m hc0 ?_
            obtain rfl : i = 257 := by omega
            refine g_eqv (mrow_eqv rfl upto_all) ?_
            refine g_iconst hF (by decide +kernel : decode cX5_play 44 = .ok (.iconst 0, 1)) ?_
            refine g_istore_n hF (by decide +kernel : decode cX5_play 45 = .ok (.istore_n 2, 1)) (by decide) ?_
            have loop2 : ∀ (n i : Nat) (mm : jM), i ≤ w → w + 1 ≤ i + n → mm = mrow m13 53 (playN (m 55) (m 56) i) → jG F X mm 46 [(0, vR 2 51), (1, vI u), (2, vI i)] [] := by
              intro n
              induction n with
              | zero => intro i mm h1 h2; exact absurd h2 (by omega)
              | succ n ih =>
                intro i mm h1 h2 hmm
                have e51 : mm 51 0 = w := by rw [hmm, mrow_ne (by decide), w0]
                have e55 : mm 55 = m 55 := by rw [hmm, mrow_ne (by decide), S0.1 55 (by decide) (by decide) (by decide)]
                have e56 : mm 56 = m 56 := by rw [hmm, mrow_ne (by decide), S0.1 56 (by decide) (by decide) (by decide)]
                refine g_iload_n hF (by decide +kernel : decode cX5_play 46 = .ok (.iload_n 2, 1)) rfl ?_
                refine g_aload_n hF (by decide +kernel : decode cX5_play 47 = .ok (.aload_n 0, 1)) rfl ?_
                refine g_getC hF lkX5_99 (by decide +kernel : decode cX5_play 48 = .ok (.getfield 99, 3)) jok51 rfl rfl ?_
                rw [e51]
                refine g_icmp_ge hF (tgt := 79) (by decide +kernel : decode cX5_play 51 = .ok (.if_icmp .ge 28, 3)) (by decide) (by omega) (by omega) (fun c51 => ?_) (fun c51 => ?_)
                · skip
                  obtain rfl : i = w := by omega
                  refine jG_m hmm ?_
                  have I2 : MI (mrow m13 53 (playN (m 55) (m 56) i)) := MI_S I0 (MSm_row (Or.inl rfl) _)
                  have ro : rowok ((mrow m13 53 (playN (m 55) (m 56) i)) 53) := by rw [mrow_at]; exact playN_ok i (fun z a b => (hw.2.2 z a b).2)
                  refine g_aload_n hF (by decide +kernel : decode cX5_play 79 = .ok (.aload_n 0, 1)) rfl ?_
                  refine g_iload_n hF (by decide +kernel : decode cX5_play 80 = .ok (.iload_n 1, 1)) rfl ?_
                  refine g_callV hF lkX5_75 (c_X5_becomes X hX _ (by omega) _ (by assumption) (by assumption)) (by decide +kernel : decode cX5_play 81 = .ok (.invokevirtual 75, 3)) (by decide) rfl rfl rfl rfl jok51 (Nat.le_of_ble_eq_true rfl) (fun v81 m81 h81 => ?_)
                  obtain ⟨rfl, w81⟩ := h81
                  rw [mrow_at] at w81 ⊢
                  have cw := MW_made w81
                  rw [e13] at cw
                  refine g_ireturn hF hQ (by decide +kernel : decode cX5_play 84 = .ok (.ireturn, 1)) ?_
                  exact ⟨rfl, cw⟩
                · skip
                  have kb := hw.2.2 i (by omega) (by omega)
                  refine g_aload_n hF (by decide +kernel : decode cX5_play 54 = .ok (.aload_n 0, 1)) rfl ?_
                  refine g_getC hF lkX5_13 (by decide +kernel : decode cX5_play 55 = .ok (.getfield 13, 3)) jok51 rfl rfl ?_
                  refine g_aload_n hF (by decide +kernel : decode cX5_play 58 = .ok (.aload_n 0, 1)) rfl ?_
                  refine g_getC hF lkX5_19 (by decide +kernel : decode cX5_play 59 = .ok (.getfield 19, 3)) jok51 rfl rfl ?_
                  refine g_iload_n hF (by decide +kernel : decode cX5_play 62 = .ok (.iload_n 2, 1)) rfl ?_
                  refine g_ldC hF (n := 60) (by decide +kernel : decode cX5_play 63 = .ok (.iaload, 1)) jrr55 rfl (by omega) ?_
                  rw [e55]
                  refine g_iconst hF (by decide +kernel : decode cX5_play 64 = .ok (.iconst 1, 1)) ?_
                  refine g_iadd hF (by decide +kernel : decode cX5_play 65 = .ok (.iadd, 1)) ?_
                  refine g_aload_n hF (by decide +kernel : decode cX5_play 66 = .ok (.aload_n 0, 1)) rfl ?_
                  refine g_getC hF lkX5_22 (by decide +kernel : decode cX5_play 67 = .ok (.getfield 22, 3)) jok51 rfl rfl ?_
                  refine g_iload_n hF (by decide +kernel : decode cX5_play 70 = .ok (.iload_n 2, 1)) rfl ?_
                  refine g_ldC hF (n := 60) (by decide +kernel : decode cX5_play 71 = .ok (.iaload, 1)) jrr56 rfl (by omega) ?_
                  rw [e56]
                  refine g_stC hF (n := 257) (by decide +kernel : decode cX5_play 72 = .ok (.iastore, 1)) jrr53 rfl (by omega) ?_
                  refine g_iinc hF (by decide +kernel : decode cX5_play 73 = .ok (.iinc 2 1, 3)) rfl (by decide) ?_
                  refine g_goto hF (tgt := 46) (by decide +kernel : decode cX5_play 76 = .ok (.goto (-30), 3)) (by decide) ?_
                  exact ih (i + 1) _ (by omega) (by omega) (by rw [mset_row, hmm, mrow_mrow, mrow_at, playN_s]; refine mrow_ext ?_; unfold fmark; rw [if_pos kb.1])
            exact loop2 (w + 1) 0 _ (by omega) (by omega) (by rw [playN_0])
          · skip
            refine g_aload_n hF (by decide +kernel : decode cX5_play 30 = .ok (.aload_n 0, 1)) rfl ?_
            refine g_getC hF lkX5_13 (by decide +kernel : decode cX5_play 31 = .ok (.getfield 13, 3)) jok51 rfl rfl ?_
            refine g_iload_n hF (by decide +kernel : decode cX5_play 34 = .ok (.iload_n 2, 1)) rfl ?_
            refine g_bipush hF (by decide +kernel : decode cX5_play 35 = .ok (.bipush (-2), 2)) (by decide) ?_
            refine g_stC hF (n := 257) (by decide +kernel : decode cX5_play 37 = .ok (.iastore, 1)) jrr53 rfl (by omega) ?_
            refine g_iinc hF (by decide +kernel : decode cX5_play 38 = .ok (.iinc 2 1, 3)) rfl (by decide) ?_
            refine g_goto hF (tgt := 23) (by decide +kernel : decode cX5_play 41 = .ok (.goto (-18), 3)) (by decide) ?_
            exact ih (i + 1) _ (by omega) (by omega) (by rw [mset_row, hc0, mrow_mrow, mrow_at, upto_put (g := fun _ => -2) (f := m13 53) (i := i) (v := -2) rfl])
      exact loop 258 0 _ (by omega) (by omega) (by rw [show ((0 : Nat) : Int) = 0 from rfl, upto_0, mrow_self])
    · skip
      exact absurd c16 (by decide)
set_option maxHeartbeats 4000000 in
set_option maxRecDepth 100000 in
theorem n1_X5_play (X : jX) (hX : jxok X) (u : Int) (ju : jr u) (m : jM) (h : ¬ (0 ≤ u ∧ u < 8)) : Con X yX5_play cX5_play 3 (some .int) 8 [vR 2 51, vI u] m (fun o m' => o = some (vI 0) ∧ m' = mset m 51 2 1) := by
  refine Con.of hX (by decide) (Nat.le_of_ble_eq_true rfl) (fun F hF hQ => ?_)
  refine g_aload_n hF (by decide +kernel : decode cX5_play 0 = .ok (.aload_n 0, 1)) rfl ?_
  refine g_iload_n hF (by decide +kernel : decode cX5_play 1 = .ok (.iload_n 1, 1)) rfl ?_
  refine g_callS hF lkX5_42 (n_X5_isSlot X hX _ (by omega) (by omega) _) (by decide +kernel : decode cX5_play 2 = .ok (.invokestatic 42, 3)) (by decide) rfl rfl (Nat.le_of_ble_eq_true rfl) (fun v2 m2 h2 => ?_)
  obtain ⟨rfl, e2⟩ := h2
  obtain rfl := e2.symm
  refine g_if_eq hF (tgt := 12) (by decide +kernel : decode cX5_play 5 = .ok (.ifCond .eq 7, 3)) (by decide) (by omega) (fun c5 => ?_) (fun c5 => ?_)
  · skip
    refine g_iconst hF (by decide +kernel : decode cX5_play 12 = .ok (.iconst 1, 1)) ?_
    refine g_callV hF lkX5_53 (n_X5_fails X hX _ (by decide) _) (by decide +kernel : decode cX5_play 13 = .ok (.invokevirtual 53, 3)) (by decide) rfl rfl rfl rfl jok51 (Nat.le_of_ble_eq_true rfl) (fun v13 m13 h13 => ?_)
    obtain ⟨rfl, e13⟩ := h13
    obtain rfl := e13.symm
    refine g_if_eq hF (tgt := 21) (by decide +kernel : decode cX5_play 16 = .ok (.ifCond .eq 5, 3)) (by decide) (by omega) (fun c16 => ?_) (fun c16 => ?_)
    · skip
      exact absurd c16 (by decide)
    · skip
      refine g_iconst hF (by decide +kernel : decode cX5_play 19 = .ok (.iconst 0, 1)) ?_
      refine g_ireturn hF hQ (by decide +kernel : decode cX5_play 20 = .ok (.ireturn, 1)) ?_
      exact ⟨rfl, rfl⟩
  · skip
    exact absurd c5 (by decide)
set_option maxHeartbeats 4000000 in
set_option maxRecDepth 100000 in
theorem c_X5_playLast (X : jX) (hX : jxok X) (u : Nat) (hu : u < 8) (b : Int) (w : Nat) (m : jM) (hI : MI m) (hw : mwok m w) : Con X yX5_playLast cX5_playLast 4 (some .int) 8 [vR 2 51, vI u, vI b] m (fun o m' => o = some (vI (cnt (playN (m 55) (m 56) w))) ∧ MW (mset m 51 2 0) u (playN (m 55) (m 56) w) m') := by
  refine Con.of hX (by decide) (Nat.le_of_ble_eq_true rfl) (fun F hF hQ => ?_)
  have hw60 := hw.1
  refine g_aload_n hF (by decide +kernel : decode cX5_playLast 0 = .ok (.aload_n 0, 1)) rfl ?_
  refine g_iload_n hF (by decide +kernel : decode cX5_playLast 1 = .ok (.iload_n 1, 1)) rfl ?_
  refine g_callS hF lkX5_42 (y_X5_isSlot X hX _ (by omega) (by omega) _) (by decide +kernel : decode cX5_playLast 2 = .ok (.invokestatic 42, 3)) (by decide) rfl rfl (Nat.le_of_ble_eq_true rfl) (fun v2 m2 h2 => ?_)
  obtain ⟨rfl, e2⟩ := h2
  obtain rfl := e2.symm
  refine g_if_eq hF (tgt := 12) (by decide +kernel : decode cX5_playLast 5 = .ok (.ifCond .eq 7, 3)) (by decide) (by omega) (fun c5 => ?_) (fun c5 => ?_)
  · skip
    exact absurd c5 (by decide)
  · skip
    refine g_iconst hF (by decide +kernel : decode cX5_playLast 8 = .ok (.iconst 0, 1)) ?_
    refine g_goto hF (tgt := 13) (by decide +kernel : decode cX5_playLast 9 = .ok (.goto 4, 3)) (by decide) ?_
    refine g_callV hF lkX5_53 (y_X5_fails X hX _) (by decide +kernel : decode cX5_playLast 13 = .ok (.invokevirtual 53, 3)) (by decide) rfl rfl rfl rfl jok51 (Nat.le_of_ble_eq_true rfl) (fun v13 m13 h13 => ?_)
    obtain ⟨rfl, e13⟩ := h13
    have S0 : MSm m m13 := by rw [e13]; exact MSm_code m (Or.inl rfl) 0
    have I0 := MI_S hI S0
    have z0 : m13 51 2 = 0 := by rw [e13, mset_at]
    have r0 : ∀ t : Nat, mR m13 t = mR m t := fun t => mR_52 (S0.1 52 (by decide) (by decide) (by decide)) t
    have w0 : m13 51 0 = w := by rw [S0.2.1, hw.2.1]
    refine g_if_eq hF (tgt := 21) (by decide +kernel : decode cX5_playLast 16 = .ok (.ifCond .eq 5, 3)) (by decide) (by omega) (fun c16 => ?_) (fun c16 => ?_)
    · skip
      refine g_iconst hF (by decide +kernel : decode cX5_playLast 21 = .ok (.iconst 0, 1)) ?_
      refine g_istore_n hF (by decide +kernel : decode cX5_playLast 22 = .ok (.istore_n 3, 1)) (by decide) ?_
      have loop : ∀ (n i : Nat) (mm : jM), i ≤ 257 → 258 ≤ i + n → mm = mrow m13 53 (upto (fun _ => -2) (m13 53) i) → jG F X mm 23 [(0, vR 2 51), (1, vI u), (2, vI b), (3, vI i)] [] := by
        intro n
        induction n with
        | zero => intro i mm h1 h2; exact absurd h2 (by omega)
        | succ n ih =>
          intro i mm h1 h2 hc0
          refine g_iload_n hF (by decide +kernel : decode cX5_playLast 23 = .ok (.iload_n 3, 1)) rfl ?_
          refine g_sipush hF (by decide +kernel : decode cX5_playLast 24 = .ok (.sipush 257, 3)) (by decide) ?_
          refine g_icmp_ge hF (tgt := 44) (by decide +kernel : decode cX5_playLast 27 = .ok (.if_icmp .ge 17, 3)) (by decide) (by omega) (by omega) (fun c27 => ?_) (fun c27 => ?_)
          · skip
            refine jG_m hc0 ?_
            obtain rfl : i = 257 := by omega
            refine g_eqv (mrow_eqv rfl upto_all) ?_
            refine g_aload_n hF (by decide +kernel : decode cX5_playLast 44 = .ok (.aload_n 0, 1)) rfl ?_
            refine g_getC hF lkX5_99 (by decide +kernel : decode cX5_playLast 45 = .ok (.getfield 99, 3)) jok51 rfl rfl ?_
            rw [show (mrow m13 53 (fun _ => -2)) 51 0 = (w : Int) by rw [mrow_ne (by decide), w0]]
            refine g_iconst hF (by decide +kernel : decode cX5_playLast 48 = .ok (.iconst 1, 1)) ?_
            refine g_isub hF (by decide +kernel : decode cX5_playLast 49 = .ok (.isub, 1)) ?_
            refine g_istore_n hF (by decide +kernel : decode cX5_playLast 50 = .ok (.istore_n 3, 1)) (by decide) ?_
            have loop2 : ∀ (n i : Nat) (k : Int) (G : Int → Int) (mm : jM), i < n → i ≤ w → k = (i : Int) - 1 → PLq (m 55) (m 56) w i G → mm = mrow m13 53 G → jG F X mm 51 [(0, vR 2 51), (1, vI u), (2, vI b), (3, vI k)] [] := by
              intro n
              induction n with
              | zero => intro i k G mm h1; exact absurd h1 (by omega)
              | succ n ih =>
                intro i k G mm h1 h2 hk hG hmm
                have e51 : mm 51 0 = w := by rw [hmm, mrow_ne (by decide), w0]
                have e55 : mm 55 = m 55 := by rw [hmm, mrow_ne (by decide), S0.1 55 (by decide) (by decide) (by decide)]
                have e56 : mm 56 = m 56 := by rw [hmm, mrow_ne (by decide), S0.1 56 (by decide) (by decide) (by decide)]
                have hKj : ∀ z : Int, 0 ≤ z → z < w → jr (mm 55 z) := fun z a b => by rw [e55]; have := (hw.2.2 z a b).1; omega
                refine g_iload_n hF (by decide +kernel : decode cX5_playLast 51 = .ok (.iload_n 3, 1)) rfl ?_
                refine g_if_lt hF (tgt := 88) (by decide +kernel : decode cX5_playLast 52 = .ok (.ifCond .lt 36, 3)) (by decide) (by omega) (fun c52 => ?_) (fun c52 => ?_)
                · skip
                  obtain rfl : i = 0 := by omega
                  have hq := PLq_end hG
                  refine jG_m hmm ?_
                  have I2 : MI (mrow m13 53 (G)) := MI_S I0 (MSm_row (Or.inl rfl) _)
                  have ro : rowok ((mrow m13 53 (G)) 53) := by rw [mrow_at]; exact (fun z a b => by rw [hq z a b]; exact playN_ok w (fun z a b => (hw.2.2 z a b).2) z a b)
                  refine g_aload_n hF (by decide +kernel : decode cX5_playLast 88 = .ok (.aload_n 0, 1)) rfl ?_
                  refine g_iload_n hF (by decide +kernel : decode cX5_playLast 89 = .ok (.iload_n 1, 1)) rfl ?_
                  refine g_callV hF lkX5_75 (c_X5_becomes X hX _ (by omega) _ (by assumption) (by assumption)) (by decide +kernel : decode cX5_playLast 90 = .ok (.invokevirtual 75, 3)) (by decide) rfl rfl rfl rfl jok51 (Nat.le_of_ble_eq_true rfl) (fun v90 m90 h90 => ?_)
                  obtain ⟨rfl, w90⟩ := h90
                  rw [mrow_at] at w90 ⊢
                  have cw := MW_eq (MW_made w90) hq
                  rw [e13] at cw
                  rw [cnt_congr hq]
                  refine g_ireturn hF hQ (by decide +kernel : decode cX5_playLast 93 = .ok (.ireturn, 1)) ?_
                  exact ⟨rfl, cw⟩
                · skip
                  obtain ⟨j, rfl⟩ : ∃ j : Nat, i = j + 1 := ⟨i - 1, by omega⟩
                  obtain rfl : k = (j : Int) := by omega
                  refine g_aload_n hF (by decide +kernel : decode cX5_playLast 55 = .ok (.aload_n 0, 1)) rfl ?_
                  refine g_iload_n hF (by decide +kernel : decode cX5_playLast 56 = .ok (.iload_n 3, 1)) rfl ?_
                  refine g_callV hF lkX5_107 (c_X5_isLast X hX _ _ _ (by assumption) (by assumption) (by omega) (by assumption)) (by decide +kernel : decode cX5_playLast 57 = .ok (.invokevirtual 107, 3)) (by decide) rfl rfl rfl rfl jok51 (Nat.le_of_ble_eq_true rfl) (fun v57 m57 h57 => ?_)
                  obtain ⟨rfl, e57⟩ := h57
                  obtain rfl := e57.symm
                  rw [e55]
                  have hbl := bI_c (isL (m 55) w (j : Int))
                  have kb := hw.2.2 j (by omega) (by omega)
                  refine g_if_eq hF (tgt := 82) (by decide +kernel : decode cX5_playLast 60 = .ok (.ifCond .eq 22, 3)) (by decide) (by omega) (fun c60 => ?_) (fun c60 => ?_)
                  · skip
                    refine g_iinc hF (by decide +kernel : decode cX5_playLast 82 = .ok (.iinc 3 (-1), 3)) rfl (by decide) ?_
                    refine g_goto hF (tgt := 51) (by decide +kernel : decode cX5_playLast 85 = .ok (.goto (-34), 3)) (by decide) ?_
                    exact ih j _ G mm (by omega) (by omega) (by omega) (PLq_skip hG (by omega) (fun q => by rw [bI_t q] at c60; exact absurd c60 (by decide))) hmm
                  · skip
                    refine g_aload_n hF (by decide +kernel : decode cX5_playLast 63 = .ok (.aload_n 0, 1)) rfl ?_
                    refine g_getC hF lkX5_13 (by decide +kernel : decode cX5_playLast 64 = .ok (.getfield 13, 3)) jok51 rfl rfl ?_
                    refine g_aload_n hF (by decide +kernel : decode cX5_playLast 67 = .ok (.aload_n 0, 1)) rfl ?_
                    refine g_getC hF lkX5_19 (by decide +kernel : decode cX5_playLast 68 = .ok (.getfield 19, 3)) jok51 rfl rfl ?_
                    refine g_iload_n hF (by decide +kernel : decode cX5_playLast 71 = .ok (.iload_n 3, 1)) rfl ?_
                    refine g_ldC hF (n := 60) (by decide +kernel : decode cX5_playLast 72 = .ok (.iaload, 1)) jrr55 rfl (by omega) ?_
                    rw [e55]
                    refine g_iconst hF (by decide +kernel : decode cX5_playLast 73 = .ok (.iconst 1, 1)) ?_
                    refine g_iadd hF (by decide +kernel : decode cX5_playLast 74 = .ok (.iadd, 1)) ?_
                    refine g_aload_n hF (by decide +kernel : decode cX5_playLast 75 = .ok (.aload_n 0, 1)) rfl ?_
                    refine g_getC hF lkX5_22 (by decide +kernel : decode cX5_playLast 76 = .ok (.getfield 22, 3)) jok51 rfl rfl ?_
                    refine g_iload_n hF (by decide +kernel : decode cX5_playLast 79 = .ok (.iload_n 3, 1)) rfl ?_
                    refine g_ldC hF (n := 60) (by decide +kernel : decode cX5_playLast 80 = .ok (.iaload, 1)) jrr56 rfl (by omega) ?_
                    rw [e56]
                    refine g_stC hF (n := 257) (by decide +kernel : decode cX5_playLast 81 = .ok (.iastore, 1)) jrr53 rfl (by omega) ?_
                    refine g_iinc hF (by decide +kernel : decode cX5_playLast 82 = .ok (.iinc 3 (-1), 3)) rfl (by decide) ?_
                    refine g_goto hF (tgt := 51) (by decide +kernel : decode cX5_playLast 85 = .ok (.goto (-34), 3)) (by decide) ?_
                    exact ih j _ _ _ (by omega) (by omega) (by omega) (PLq_mark hG (by omega) (Classical.byContradiction (fun q => c60 (bI_f q))) kb.1) (by rw [mset_row, hmm, mrow_mrow, mrow_at])
            exact loop2 (w + 1) w _ _ _ (by omega) (by omega) rfl (PLq_0 _ _ _) rfl
          · skip
            refine g_aload_n hF (by decide +kernel : decode cX5_playLast 30 = .ok (.aload_n 0, 1)) rfl ?_
            refine g_getC hF lkX5_13 (by decide +kernel : decode cX5_playLast 31 = .ok (.getfield 13, 3)) jok51 rfl rfl ?_
            refine g_iload_n hF (by decide +kernel : decode cX5_playLast 34 = .ok (.iload_n 3, 1)) rfl ?_
            refine g_bipush hF (by decide +kernel : decode cX5_playLast 35 = .ok (.bipush (-2), 2)) (by decide) ?_
            refine g_stC hF (n := 257) (by decide +kernel : decode cX5_playLast 37 = .ok (.iastore, 1)) jrr53 rfl (by omega) ?_
            refine g_iinc hF (by decide +kernel : decode cX5_playLast 38 = .ok (.iinc 3 1, 3)) rfl (by decide) ?_
            refine g_goto hF (tgt := 23) (by decide +kernel : decode cX5_playLast 41 = .ok (.goto (-18), 3)) (by decide) ?_
            exact ih (i + 1) _ (by omega) (by omega) (by rw [mset_row, hc0, mrow_mrow, mrow_at, upto_put (g := fun _ => -2) (f := m13 53) (i := i) (v := -2) rfl])
      exact loop 258 0 _ (by omega) (by omega) (by rw [show ((0 : Nat) : Int) = 0 from rfl, upto_0, mrow_self])
    · skip
      exact absurd c16 (by decide)
set_option maxHeartbeats 4000000 in
set_option maxRecDepth 100000 in
theorem n1_X5_playLast (X : jX) (hX : jxok X) (u : Int) (ju : jr u) (b : Int) (m : jM) (h : ¬ (0 ≤ u ∧ u < 8)) : Con X yX5_playLast cX5_playLast 4 (some .int) 8 [vR 2 51, vI u, vI b] m (fun o m' => o = some (vI 0) ∧ m' = mset m 51 2 1) := by
  refine Con.of hX (by decide) (Nat.le_of_ble_eq_true rfl) (fun F hF hQ => ?_)
  refine g_aload_n hF (by decide +kernel : decode cX5_playLast 0 = .ok (.aload_n 0, 1)) rfl ?_
  refine g_iload_n hF (by decide +kernel : decode cX5_playLast 1 = .ok (.iload_n 1, 1)) rfl ?_
  refine g_callS hF lkX5_42 (n_X5_isSlot X hX _ (by omega) (by omega) _) (by decide +kernel : decode cX5_playLast 2 = .ok (.invokestatic 42, 3)) (by decide) rfl rfl (Nat.le_of_ble_eq_true rfl) (fun v2 m2 h2 => ?_)
  obtain ⟨rfl, e2⟩ := h2
  obtain rfl := e2.symm
  refine g_if_eq hF (tgt := 12) (by decide +kernel : decode cX5_playLast 5 = .ok (.ifCond .eq 7, 3)) (by decide) (by omega) (fun c5 => ?_) (fun c5 => ?_)
  · skip
    refine g_iconst hF (by decide +kernel : decode cX5_playLast 12 = .ok (.iconst 1, 1)) ?_
    refine g_callV hF lkX5_53 (n_X5_fails X hX _ (by decide) _) (by decide +kernel : decode cX5_playLast 13 = .ok (.invokevirtual 53, 3)) (by decide) rfl rfl rfl rfl jok51 (Nat.le_of_ble_eq_true rfl) (fun v13 m13 h13 => ?_)
    obtain ⟨rfl, e13⟩ := h13
    obtain rfl := e13.symm
    refine g_if_eq hF (tgt := 21) (by decide +kernel : decode cX5_playLast 16 = .ok (.ifCond .eq 5, 3)) (by decide) (by omega) (fun c16 => ?_) (fun c16 => ?_)
    · skip
      exact absurd c16 (by decide)
    · skip
      refine g_iconst hF (by decide +kernel : decode cX5_playLast 19 = .ok (.iconst 0, 1)) ?_
      refine g_ireturn hF hQ (by decide +kernel : decode cX5_playLast 20 = .ok (.ireturn, 1)) ?_
      exact ⟨rfl, rfl⟩
  · skip
    exact absurd c5 (by decide)
set_option maxHeartbeats 4000000 in
set_option maxRecDepth 100000 in
theorem c_X5_lastWords (X : jX) (hX : jxok X) (w : Nat) (m : jM) (hw : mwok m w) : Con X yX5_lastWords cX5_lastWords 3 (some .int) 8 [vR 2 51] m (fun o m' => o = some (vI (lastCount (m 55) w)) ∧ MSm m m' ∧ m' 51 2 = 0) := by
  refine Con.of hX (by decide) (Nat.le_of_ble_eq_true rfl) (fun F hF hQ => ?_)
  have hw60 := hw.1
  have S0 : MSm m (mset m 51 2 0) := MSm_code m (Or.inl rfl) 0
  have z0 : (mset m 51 2 0) 51 2 = 0 := mset_at _ _ _ _
  have w0 : (mset m 51 2 0) 51 0 = w := by rw [S0.2.1, hw.2.1]
  have e55 : (mset m 51 2 0) 55 = m 55 := mset_ne (by decide)
  have hKj : ∀ z : Int, 0 ≤ z → z < w → jr ((mset m 51 2 0) 55 z) := fun z a b => by rw [e55]; have := (hw.2.2 z a b).1; omega
  refine g_aload_n hF (by decide +kernel : decode cX5_lastWords 0 = .ok (.aload_n 0, 1)) rfl ?_
  refine g_iconst hF (by decide +kernel : decode cX5_lastWords 1 = .ok (.iconst 0, 1)) ?_
  refine g_putC hF lkPX5_31 (by decide +kernel : decode cX5_lastWords 2 = .ok (.putfield 31, 3)) jok51 rfl rfl (Or.inl rfl) ?_
  refine g_iconst hF (by decide +kernel : decode cX5_lastWords 5 = .ok (.iconst 0, 1)) ?_
  refine g_istore_n hF (by decide +kernel : decode cX5_lastWords 6 = .ok (.istore_n 1, 1)) (by decide) ?_
  refine g_iconst hF (by decide +kernel : decode cX5_lastWords 7 = .ok (.iconst 0, 1)) ?_
  refine g_istore_n hF (by decide +kernel : decode cX5_lastWords 8 = .ok (.istore_n 2, 1)) (by decide) ?_
  have loop : ∀ (n i : Nat) (a : Int), i ≤ w → w + 1 ≤ i + n → a = sumN (fun i => bI (isL (m 55) w i)) i → jG F X (mset m 51 2 0) 9 [(0, vR 2 51), (1, vI a), (2, vI i)] [] := by
    intro n
    induction n with
    | zero => intro i a h1 h2; exact absurd h2 (by omega)
    | succ n ih =>
      intro i a h1 h2 ha
      refine g_iload_n hF (by decide +kernel : decode cX5_lastWords 9 = .ok (.iload_n 2, 1)) rfl ?_
      refine g_aload_n hF (by decide +kernel : decode cX5_lastWords 10 = .ok (.aload_n 0, 1)) rfl ?_
      refine g_getC hF lkX5_99 (by decide +kernel : decode cX5_lastWords 11 = .ok (.getfield 99, 3)) jok51 rfl rfl ?_
      rw [w0]
      refine g_icmp_ge hF (tgt := 39) (by decide +kernel : decode cX5_lastWords 14 = .ok (.if_icmp .ge 25, 3)) (by decide) (by omega) (by omega) (fun c14 => ?_) (fun c14 => ?_)
      · skip
        refine g_iload_n hF (by decide +kernel : decode cX5_lastWords 39 = .ok (.iload_n 1, 1)) rfl ?_
        refine g_ireturn hF hQ (by decide +kernel : decode cX5_lastWords 40 = .ok (.ireturn, 1)) ?_
        exact ⟨by rw [ha, show i = w by omega]; rfl, S0, z0⟩
      · skip
        refine g_iload_n hF (by decide +kernel : decode cX5_lastWords 17 = .ok (.iload_n 1, 1)) rfl ?_
        refine g_aload_n hF (by decide +kernel : decode cX5_lastWords 18 = .ok (.aload_n 0, 1)) rfl ?_
        refine g_iload_n hF (by decide +kernel : decode cX5_lastWords 19 = .ok (.iload_n 2, 1)) rfl ?_
        refine g_callV hF lkX5_107 (c_X5_isLast X hX _ _ _ (by assumption) (by assumption) (by omega) (by assumption)) (by decide +kernel : decode cX5_lastWords 20 = .ok (.invokevirtual 107, 3)) (by decide) rfl rfl rfl rfl jok51 (Nat.le_of_ble_eq_true rfl) (fun v20 m20 h20 => ?_)
        obtain ⟨rfl, e20⟩ := h20
        obtain rfl := e20.symm
        rw [e55]
        have hbl := bI_c (isL (m 55) w (i : Int))
        refine g_if_eq hF (tgt := 30) (by decide +kernel : decode cX5_lastWords 23 = .ok (.ifCond .eq 7, 3)) (by decide) (by omega) (fun c23 => ?_) (fun c23 => ?_)
        · skip
          refine g_iconst hF (by decide +kernel : decode cX5_lastWords 30 = .ok (.iconst 0, 1)) ?_
          refine g_iadd hF (by decide +kernel : decode cX5_lastWords 31 = .ok (.iadd, 1)) ?_
          refine g_istore_n hF (by decide +kernel : decode cX5_lastWords 32 = .ok (.istore_n 1, 1)) (by decide) ?_
          refine g_iinc hF (by decide +kernel : decode cX5_lastWords 33 = .ok (.iinc 2 1, 3)) rfl (by decide) ?_
          refine g_goto hF (tgt := 9) (by decide +kernel : decode cX5_lastWords 36 = .ok (.goto (-27), 3)) (by decide) ?_
          exact ih (i + 1) _ (by omega) (by omega) (by rw [ha, sumN_s, c23])
        · skip
          refine g_iconst hF (by decide +kernel : decode cX5_lastWords 26 = .ok (.iconst 1, 1)) ?_
          refine g_goto hF (tgt := 31) (by decide +kernel : decode cX5_lastWords 27 = .ok (.goto 4, 3)) (by decide) ?_
          refine g_iadd hF (by decide +kernel : decode cX5_lastWords 31 = .ok (.iadd, 1)) ?_
          refine g_istore_n hF (by decide +kernel : decode cX5_lastWords 32 = .ok (.istore_n 1, 1)) (by decide) ?_
          refine g_iinc hF (by decide +kernel : decode cX5_lastWords 33 = .ok (.iinc 2 1, 3)) rfl (by decide) ?_
          refine g_goto hF (tgt := 9) (by decide +kernel : decode cX5_lastWords 36 = .ok (.goto (-27), 3)) (by decide) ?_
          exact ih (i + 1) _ (by omega) (by omega) (by rw [ha, sumN_s, hbl.resolve_left c23])
  exact loop (w + 1) 0 0 (by omega) (by omega) (sumN_0 _).symm
set_option maxHeartbeats 4000000 in
set_option maxRecDepth 100000 in
theorem c_X5_undo (X : jX) (hX : jxok X) (c : Nat) (hc8 : c < 8) (t : Nat) (ht : t < 8) (m : jM) (hI : MI m) (hc : m 51 1 = (c : Int) + 1) (h57 : m 57 c = t) : Con X yX5_undo cX5_undo 2 (some .int) 8 [vR 2 51] m (fun o m' => o = some (vI t) ∧ MBk m c t m' ∧ m' 51 2 = 0) := by
  refine Con.of hX (by decide) (Nat.le_of_ble_eq_true rfl) (fun F hF hQ => ?_)
  refine g_aload_n hF (by decide +kernel : decode cX5_undo 0 = .ok (.aload_n 0, 1)) rfl ?_
  refine g_aload_n hF (by decide +kernel : decode cX5_undo 1 = .ok (.aload_n 0, 1)) rfl ?_
  refine g_getC hF lkX5_39 (by decide +kernel : decode cX5_undo 2 = .ok (.getfield 39, 3)) jok51 rfl rfl ?_
  rw [hc]
  refine g_if_ne hF (tgt := 12) (by decide +kernel : decode cX5_undo 5 = .ok (.ifCond .ne 7, 3)) (by decide) (by omega) (fun c5 => ?_) (fun c5 => ?_)
  · skip
    refine g_iconst hF (by decide +kernel : decode cX5_undo 12 = .ok (.iconst 0, 1)) ?_
    refine g_callV hF lkX5_53 (y_X5_fails X hX _) (by decide +kernel : decode cX5_undo 13 = .ok (.invokevirtual 53, 3)) (by decide) rfl rfl rfl rfl jok51 (Nat.le_of_ble_eq_true rfl) (fun v13 m13 h13 => ?_)
    obtain ⟨rfl, e13⟩ := h13
    have S0 : MSm m m13 := by rw [e13]; exact MSm_code m (Or.inl rfl) 0
    have I0 := MI_S hI S0
    have z0 : m13 51 2 = 0 := by rw [e13, mset_at]
    have r0 : ∀ t : Nat, mR m13 t = mR m t := fun t => mR_52 (S0.1 52 (by decide) (by decide) (by decide)) t
    have k13 : m13 51 1 = (c : Int) + 1 := by rw [S0.2.2, hc]
    have f57 : m13 57 c = t := by rw [S0.1 57 (by decide) (by decide) (by decide), h57]
    have f58 : m13 58 = m 58 := S0.1 58 (by decide) (by decide) (by decide)
    refine g_if_eq hF (tgt := 21) (by decide +kernel : decode cX5_undo 16 = .ok (.ifCond .eq 5, 3)) (by decide) (by omega) (fun c16 => ?_) (fun c16 => ?_)
    · skip
      refine g_aload_n hF (by decide +kernel : decode cX5_undo 21 = .ok (.aload_n 0, 1)) rfl ?_
      refine g_dup hF (by decide +kernel : decode cX5_undo 22 = .ok (.dup, 1)) rfl ?_
      refine g_getC hF lkX5_39 (by decide +kernel : decode cX5_undo 23 = .ok (.getfield 39, 3)) jok51 rfl rfl ?_
      rw [k13]
      refine g_iconst hF (by decide +kernel : decode cX5_undo 26 = .ok (.iconst 1, 1)) ?_
      refine g_isub hF (by decide +kernel : decode cX5_undo 27 = .ok (.isub, 1)) ?_
      refine g_putC hF lkPX5_39 (by decide +kernel : decode cX5_undo 28 = .ok (.putfield 39, 3)) jok51 rfl rfl (Or.inl rfl) ?_
      rw [show (c : Int) + 1 - 1 = c by omega]
      refine g_iconst hF (by decide +kernel : decode cX5_undo 31 = .ok (.iconst 0, 1)) ?_
      refine g_istore_n hF (by decide +kernel : decode cX5_undo 32 = .ok (.istore_n 1, 1)) (by decide) ?_
      have loop : ∀ (n i : Nat) (mm : jM), i ≤ 257 → 258 ≤ i + n → mm = mw (mset m13 51 1 c) t (upto (mK m c) (mR (mset m13 51 1 c) t) i) → jG F X mm 33 [(0, vR 2 51), (1, vI i)] [] := by
        intro n
        induction n with
        | zero => intro i mm h1 h2; exact absurd h2 (by omega)
        | succ n ih =>
          intro i mm h1 h2 hmm
          have e511 : mm 51 1 = c := by rw [hmm, mw_ne (by decide), mset_at]
          have e57 : mm 57 c = t := by rw [hmm, mw_ne (by decide), mset_ne (by decide), f57]
          have e58 : mm 58 (257 * (c : Int) + i) = mK m c i := by rw [hmm, mw_ne (by decide), mset_ne (by decide), f58]; rfl
          refine g_iload_n hF (by decide +kernel : decode cX5_undo 33 = .ok (.iload_n 1, 1)) rfl ?_
          refine g_sipush hF (by decide +kernel : decode cX5_undo 34 = .ok (.sipush 257, 3)) (by decide) ?_
          refine g_icmp_ge hF (tgt := 81) (by decide +kernel : decode cX5_undo 37 = .ok (.if_icmp .ge 44, 3)) (by decide) (by omega) (by omega) (fun c37 => ?_) (fun c37 => ?_)
          · skip
            refine g_aload_n hF (by decide +kernel : decode cX5_undo 81 = .ok (.aload_n 0, 1)) rfl ?_
            refine g_getC hF lkX5_25 (by decide +kernel : decode cX5_undo 82 = .ok (.getfield 25, 3)) jok51 rfl rfl ?_
            refine g_aload_n hF (by decide +kernel : decode cX5_undo 85 = .ok (.aload_n 0, 1)) rfl ?_
            refine g_getC hF lkX5_39 (by decide +kernel : decode cX5_undo 86 = .ok (.getfield 39, 3)) jok51 rfl rfl ?_
            rw [e511]
            refine g_ldC hF (n := 8) (by decide +kernel : decode cX5_undo 89 = .ok (.iaload, 1)) jrr57 rfl (by omega) ?_
            rw [e57]
            refine g_ireturn hF hQ (by decide +kernel : decode cX5_undo 90 = .ok (.ireturn, 1)) ?_
            exact ⟨rfl, MBk_of hc8 ht hc h57 S0 (by rw [hmm, show i = 257 by omega]; exact mw_congr upto_all), by rw [hmm, mw_ne (by decide), mset_off (by decide), z0]⟩
          · skip
            refine g_aload_n hF (by decide +kernel : decode cX5_undo 40 = .ok (.aload_n 0, 1)) rfl ?_
            refine g_getC hF lkX5_7 (by decide +kernel : decode cX5_undo 41 = .ok (.getfield 7, 3)) jok51 rfl rfl ?_
            refine g_sipush hF (by decide +kernel : decode cX5_undo 44 = .ok (.sipush 257, 3)) (by decide) ?_
            refine g_aload_n hF (by decide +kernel : decode cX5_undo 47 = .ok (.aload_n 0, 1)) rfl ?_
            refine g_getC hF lkX5_25 (by decide +kernel : decode cX5_undo 48 = .ok (.getfield 25, 3)) jok51 rfl rfl ?_
            refine g_aload_n hF (by decide +kernel : decode cX5_undo 51 = .ok (.aload_n 0, 1)) rfl ?_
            refine g_getC hF lkX5_39 (by decide +kernel : decode cX5_undo 52 = .ok (.getfield 39, 3)) jok51 rfl rfl ?_
            rw [e511]
            refine g_ldC hF (n := 8) (by decide +kernel : decode cX5_undo 55 = .ok (.iaload, 1)) jrr57 rfl (by omega) ?_
            rw [e57]
            refine g_imul hF (by decide +kernel : decode cX5_undo 56 = .ok (.imul, 1)) ?_
            refine g_iload_n hF (by decide +kernel : decode cX5_undo 57 = .ok (.iload_n 1, 1)) rfl ?_
            refine g_iadd hF (by decide +kernel : decode cX5_undo 58 = .ok (.iadd, 1)) ?_
            refine g_aload_n hF (by decide +kernel : decode cX5_undo 59 = .ok (.aload_n 0, 1)) rfl ?_
            refine g_getC hF lkX5_28 (by decide +kernel : decode cX5_undo 60 = .ok (.getfield 28, 3)) jok51 rfl rfl ?_
            refine g_sipush hF (by decide +kernel : decode cX5_undo 63 = .ok (.sipush 257, 3)) (by decide) ?_
            refine g_aload_n hF (by decide +kernel : decode cX5_undo 66 = .ok (.aload_n 0, 1)) rfl ?_
            refine g_getC hF lkX5_39 (by decide +kernel : decode cX5_undo 67 = .ok (.getfield 39, 3)) jok51 rfl rfl ?_
            rw [e511]
            refine g_imul hF (by decide +kernel : decode cX5_undo 70 = .ok (.imul, 1)) ?_
            refine g_iload_n hF (by decide +kernel : decode cX5_undo 71 = .ok (.iload_n 1, 1)) rfl ?_
            refine g_iadd hF (by decide +kernel : decode cX5_undo 72 = .ok (.iadd, 1)) ?_
            refine g_ldC hF (n := 2056) (by decide +kernel : decode cX5_undo 73 = .ok (.iaload, 1)) jrr58 rfl (by omega) ?_
            rw [e58]
            refine g_stC hF (n := 2056) (by decide +kernel : decode cX5_undo 74 = .ok (.iastore, 1)) jrr52 rfl (by omega) ?_
            refine g_iinc hF (by decide +kernel : decode cX5_undo 75 = .ok (.iinc 1 1, 3)) rfl (by decide) ?_
            refine g_goto hF (tgt := 33) (by decide +kernel : decode cX5_undo 78 = .ok (.goto (-45), 3)) (by decide) ?_
            exact ih (i + 1) _ (by omega) (by omega) (by rw [hmm]; exact mw_step rfl (by omega) rfl)
      exact loop 258 0 _ (by omega) (by omega) (by rw [show ((0 : Nat) : Int) = 0 from rfl, upto_0, mw_self])
    · skip
      exact absurd c16 (by decide)
  · skip
    exact absurd c5 (by omega)
set_option maxHeartbeats 4000000 in
set_option maxRecDepth 100000 in
theorem n1_X5_undo (X : jX) (hX : jxok X) (m : jM) (h : m 51 1 = 0) : Con X yX5_undo cX5_undo 2 (some .int) 8 [vR 2 51] m (fun o m' => o = some (vI 0) ∧ m' = mset m 51 2 1) := by
  refine Con.of hX (by decide) (Nat.le_of_ble_eq_true rfl) (fun F hF hQ => ?_)
  refine g_aload_n hF (by decide +kernel : decode cX5_undo 0 = .ok (.aload_n 0, 1)) rfl ?_
  refine g_aload_n hF (by decide +kernel : decode cX5_undo 1 = .ok (.aload_n 0, 1)) rfl ?_
  refine g_getC hF lkX5_39 (by decide +kernel : decode cX5_undo 2 = .ok (.getfield 39, 3)) jok51 rfl rfl ?_
  rw [h]
  refine g_if_ne hF (tgt := 12) (by decide +kernel : decode cX5_undo 5 = .ok (.ifCond .ne 7, 3)) (by decide) (by omega) (fun c5 => ?_) (fun c5 => ?_)
  · skip
    exact absurd rfl c5
  · skip
    refine g_iconst hF (by decide +kernel : decode cX5_undo 8 = .ok (.iconst 1, 1)) ?_
    refine g_goto hF (tgt := 13) (by decide +kernel : decode cX5_undo 9 = .ok (.goto 4, 3)) (by decide) ?_
    refine g_callV hF lkX5_53 (n_X5_fails X hX _ (by decide) _) (by decide +kernel : decode cX5_undo 13 = .ok (.invokevirtual 53, 3)) (by decide) rfl rfl rfl rfl jok51 (Nat.le_of_ble_eq_true rfl) (fun v13 m13 h13 => ?_)
    obtain ⟨rfl, e13⟩ := h13
    obtain rfl := e13.symm
    refine g_if_eq hF (tgt := 21) (by decide +kernel : decode cX5_undo 16 = .ok (.ifCond .eq 5, 3)) (by decide) (by omega) (fun c16 => ?_) (fun c16 => ?_)
    · skip
      exact absurd c16 (by decide)
    · skip
      refine g_iconst hF (by decide +kernel : decode cX5_undo 19 = .ok (.iconst 0, 1)) ?_
      refine g_ireturn hF hQ (by decide +kernel : decode cX5_undo 20 = .ok (.ireturn, 1)) ?_
      exact ⟨rfl, rfl⟩
set_option maxHeartbeats 4000000 in
set_option maxRecDepth 100000 in
theorem c_X5_share (X : jX) (hX : jxok X) (s : Nat) (hs : s < 8) (m : jM) (hI : MI m) (hn : cnt (mR m s) ≠ 0) : Con X yX5_share cX5_share 2 (some .float) 8 [vR 2 51, vI s] m (fun o m' => o = some (vF (shrV (selfN (mR m s)) (cnt (mR m s)))) ∧ MSm m m' ∧ m' 51 2 = 0) := by
  refine Con.of hX (by decide) (Nat.le_of_ble_eq_true rfl) (fun F hF hQ => ?_)
  have hr := hI.1 s hs
  have hcb := cnt_b (mR m s)
  refine g_aload_n hF (by decide +kernel : decode cX5_share 0 = .ok (.aload_n 0, 1)) rfl ?_
  refine g_iload_n hF (by decide +kernel : decode cX5_share 1 = .ok (.iload_n 1, 1)) rfl ?_
  refine g_callS hF lkX5_42 (y_X5_isSlot X hX _ (by omega) (by omega) _) (by decide +kernel : decode cX5_share 2 = .ok (.invokestatic 42, 3)) (by decide) rfl rfl (Nat.le_of_ble_eq_true rfl) (fun v2 m2 h2 => ?_)
  obtain ⟨rfl, e2⟩ := h2
  obtain rfl := e2.symm
  refine g_if_ne hF (tgt := 12) (by decide +kernel : decode cX5_share 5 = .ok (.ifCond .ne 7, 3)) (by decide) (by omega) (fun c5 => ?_) (fun c5 => ?_)
  · skip
    refine g_aload_n hF (by decide +kernel : decode cX5_share 12 = .ok (.aload_n 0, 1)) rfl ?_
    refine g_iload_n hF (by decide +kernel : decode cX5_share 13 = .ok (.iload_n 1, 1)) rfl ?_
    refine g_callV hF lkX5_68 (c_X5_many X hX _ (by omega) _ (by assumption)) (by decide +kernel : decode cX5_share 14 = .ok (.invokevirtual 68, 3)) (by decide) rfl rfl rfl rfl jok51 (Nat.le_of_ble_eq_true rfl) (fun v14 m14 h14 => ?_)
    obtain ⟨rfl, e14⟩ := h14
    obtain rfl := e14.symm
    refine g_if_ne hF (tgt := 24) (by decide +kernel : decode cX5_share 17 = .ok (.ifCond .ne 7, 3)) (by decide) (by omega) (fun c17 => ?_) (fun c17 => ?_)
    · skip
      refine g_iconst hF (by decide +kernel : decode cX5_share 24 = .ok (.iconst 0, 1)) ?_
      refine g_callV hF lkX5_53 (y_X5_fails X hX _) (by decide +kernel : decode cX5_share 25 = .ok (.invokevirtual 53, 3)) (by decide) rfl rfl rfl rfl jok51 (Nat.le_of_ble_eq_true rfl) (fun v25 m25 h25 => ?_)
      obtain ⟨rfl, e25⟩ := h25
      have S0 : MSm m m25 := by rw [e25]; exact MSm_code m (Or.inl rfl) 0
      have I0 := MI_S hI S0
      have z0 : m25 51 2 = 0 := by rw [e25, mset_at]
      have r0 : ∀ t : Nat, mR m25 t = mR m t := fun t => mR_52 (S0.1 52 (by decide) (by decide) (by decide)) t
      refine g_if_eq hF (tgt := 33) (by decide +kernel : decode cX5_share 28 = .ok (.ifCond .eq 5, 3)) (by decide) (by omega) (fun c28 => ?_) (fun c28 => ?_)
      · skip
        have hm0 : rowok (mR m25 s) := by rw [r0]; exact hr
        refine g_aload_n hF (by decide +kernel : decode cX5_share 33 = .ok (.aload_n 0, 1)) rfl ?_
        refine g_iload_n hF (by decide +kernel : decode cX5_share 34 = .ok (.iload_n 1, 1)) rfl ?_
        refine g_callV hF lkX5_87 (c_X5_manyFixed X hX _ (by omega) _ (by assumption)) (by decide +kernel : decode cX5_share 35 = .ok (.invokevirtual 87, 3)) (by decide) rfl rfl rfl rfl jok51 (Nat.le_of_ble_eq_true rfl) (fun v35 m35 h35 => ?_)
        obtain ⟨rfl, e35⟩ := h35
        obtain rfl := e35.symm
        rw [r0]
        refine g_i2f hF (by decide +kernel : decode cX5_share 38 = .ok (.i2f, 1)) ?_
        refine g_aload_n hF (by decide +kernel : decode cX5_share 39 = .ok (.aload_n 0, 1)) rfl ?_
        refine g_iload_n hF (by decide +kernel : decode cX5_share 40 = .ok (.iload_n 1, 1)) rfl ?_
        refine g_callV hF lkX5_68 (c_X5_many X hX _ (by omega) _ (by assumption)) (by decide +kernel : decode cX5_share 41 = .ok (.invokevirtual 68, 3)) (by decide) rfl rfl rfl rfl jok51 (Nat.le_of_ble_eq_true rfl) (fun v41 m41 h41 => ?_)
        obtain ⟨rfl, e41⟩ := h41
        obtain rfl := e41.symm
        rw [r0]
        refine g_i2f hF (by decide +kernel : decode cX5_share 44 = .ok (.i2f, 1)) ?_
        refine g_fdiv hF (by decide +kernel : decode cX5_share 45 = .ok (.fdiv, 1)) (shr_n (by omega)) ?_
        refine g_freturn hF hQ (by decide +kernel : decode cX5_share 46 = .ok (.freturn, 1)) ?_
        exact ⟨rfl, S0, z0⟩
      · skip
        exact absurd c28 (by decide)
    · skip
      exact absurd c17 hn
  · skip
    exact absurd c5 (by decide)
set_option maxHeartbeats 4000000 in
set_option maxRecDepth 100000 in
theorem n1_X5_share (X : jX) (hX : jxok X) (s : Int) (js : jr s) (m : jM) (h : ¬ (0 ≤ s ∧ s < 8)) : Con X yX5_share cX5_share 2 (some .float) 8 [vR 2 51, vI s] m (fun o m' => o = some (vF FP.fconst0) ∧ m' = mset m 51 2 1) := by
  refine Con.of hX (by decide) (Nat.le_of_ble_eq_true rfl) (fun F hF hQ => ?_)
  refine g_aload_n hF (by decide +kernel : decode cX5_share 0 = .ok (.aload_n 0, 1)) rfl ?_
  refine g_iload_n hF (by decide +kernel : decode cX5_share 1 = .ok (.iload_n 1, 1)) rfl ?_
  refine g_callS hF lkX5_42 (n_X5_isSlot X hX _ (by omega) (by omega) _) (by decide +kernel : decode cX5_share 2 = .ok (.invokestatic 42, 3)) (by decide) rfl rfl (Nat.le_of_ble_eq_true rfl) (fun v2 m2 h2 => ?_)
  obtain ⟨rfl, e2⟩ := h2
  obtain rfl := e2.symm
  refine g_if_ne hF (tgt := 12) (by decide +kernel : decode cX5_share 5 = .ok (.ifCond .ne 7, 3)) (by decide) (by omega) (fun c5 => ?_) (fun c5 => ?_)
  · skip
    exact absurd c5 (by decide)
  · skip
    refine g_iconst hF (by decide +kernel : decode cX5_share 8 = .ok (.iconst 1, 1)) ?_
    refine g_goto hF (tgt := 25) (by decide +kernel : decode cX5_share 9 = .ok (.goto 16, 3)) (by decide) ?_
    refine g_callV hF lkX5_53 (n_X5_fails X hX _ (by decide) _) (by decide +kernel : decode cX5_share 25 = .ok (.invokevirtual 53, 3)) (by decide) rfl rfl rfl rfl jok51 (Nat.le_of_ble_eq_true rfl) (fun v25 m25 h25 => ?_)
    obtain ⟨rfl, e25⟩ := h25
    obtain rfl := e25.symm
    refine g_if_eq hF (tgt := 33) (by decide +kernel : decode cX5_share 28 = .ok (.ifCond .eq 5, 3)) (by decide) (by omega) (fun c28 => ?_) (fun c28 => ?_)
    · skip
      exact absurd c28 (by decide)
    · skip
      refine lv_f0 hF (by decide +kernel : decode cX5_share 31 = .ok (.fconst 0, 1)) ?_
      refine g_freturn hF hQ (by decide +kernel : decode cX5_share 32 = .ok (.freturn, 1)) ?_
      exact ⟨rfl, rfl⟩
set_option maxHeartbeats 4000000 in
set_option maxRecDepth 100000 in
theorem n2_X5_share (X : jX) (hX : jxok X) (s : Nat) (hs : s < 8) (m : jM) (hI : MI m) (h : cnt (mR m s) = 0) : Con X yX5_share cX5_share 2 (some .float) 8 [vR 2 51, vI s] m (fun o m' => o = some (vF FP.fconst0) ∧ m' = mset m 51 2 2) := by
  refine Con.of hX (by decide) (Nat.le_of_ble_eq_true rfl) (fun F hF hQ => ?_)
  have hr := hI.1 s hs
  refine g_aload_n hF (by decide +kernel : decode cX5_share 0 = .ok (.aload_n 0, 1)) rfl ?_
  refine g_iload_n hF (by decide +kernel : decode cX5_share 1 = .ok (.iload_n 1, 1)) rfl ?_
  refine g_callS hF lkX5_42 (y_X5_isSlot X hX _ (by omega) (by omega) _) (by decide +kernel : decode cX5_share 2 = .ok (.invokestatic 42, 3)) (by decide) rfl rfl (Nat.le_of_ble_eq_true rfl) (fun v2 m2 h2 => ?_)
  obtain ⟨rfl, e2⟩ := h2
  obtain rfl := e2.symm
  refine g_if_ne hF (tgt := 12) (by decide +kernel : decode cX5_share 5 = .ok (.ifCond .ne 7, 3)) (by decide) (by omega) (fun c5 => ?_) (fun c5 => ?_)
  · skip
    refine g_aload_n hF (by decide +kernel : decode cX5_share 12 = .ok (.aload_n 0, 1)) rfl ?_
    refine g_iload_n hF (by decide +kernel : decode cX5_share 13 = .ok (.iload_n 1, 1)) rfl ?_
    refine g_callV hF lkX5_68 (c_X5_many X hX _ (by omega) _ (by assumption)) (by decide +kernel : decode cX5_share 14 = .ok (.invokevirtual 68, 3)) (by decide) rfl rfl rfl rfl jok51 (Nat.le_of_ble_eq_true rfl) (fun v14 m14 h14 => ?_)
    obtain ⟨rfl, e14⟩ := h14
    obtain rfl := e14.symm
    rw [h]
    refine g_if_ne hF (tgt := 24) (by decide +kernel : decode cX5_share 17 = .ok (.ifCond .ne 7, 3)) (by decide) (by omega) (fun c17 => ?_) (fun c17 => ?_)
    · skip
      exact absurd rfl c17
    · skip
      refine g_iconst hF (by decide +kernel : decode cX5_share 20 = .ok (.iconst 2, 1)) ?_
      refine g_goto hF (tgt := 25) (by decide +kernel : decode cX5_share 21 = .ok (.goto 4, 3)) (by decide) ?_
      refine g_callV hF lkX5_53 (n_X5_fails X hX _ (by decide) _) (by decide +kernel : decode cX5_share 25 = .ok (.invokevirtual 53, 3)) (by decide) rfl rfl rfl rfl jok51 (Nat.le_of_ble_eq_true rfl) (fun v25 m25 h25 => ?_)
      obtain ⟨rfl, e25⟩ := h25
      obtain rfl := e25.symm
      refine g_if_eq hF (tgt := 33) (by decide +kernel : decode cX5_share 28 = .ok (.ifCond .eq 5, 3)) (by decide) (by omega) (fun c28 => ?_) (fun c28 => ?_)
      · skip
        exact absurd c28 (by decide)
      · skip
        refine lv_f0 hF (by decide +kernel : decode cX5_share 31 = .ok (.fconst 0, 1)) ?_
        refine g_freturn hF hQ (by decide +kernel : decode cX5_share 32 = .ok (.freturn, 1)) ?_
        exact ⟨rfl, rfl⟩
  · skip
    exact absurd c5 (by decide)
set_option maxHeartbeats 4000000 in
set_option maxRecDepth 100000 in
theorem c_X5_meanSize (X : jX) (hX : jxok X) (m : jM) (hI : MI m) : Con X yX5_meanSize cX5_meanSize 3 (some .double) 8 [vR 2 51] m (fun o m' => o = some (vD (meanV (sizeB m 8))) ∧ MSm m m' ∧ m' 51 2 = 0) := by
  refine Con.of hX (by decide) (Nat.le_of_ble_eq_true rfl) (fun F hF hQ => ?_)
  have S0 : MSm m (mset m 51 2 0) := MSm_code m (Or.inl rfl) 0
  have z0 : (mset m 51 2 0) 51 2 = 0 := mset_at _ _ _ _
  have r0 : ∀ t : Nat, mR (mset m 51 2 0) t = mR m t := fun t => mR_52 (mset_ne (by decide)) t
  refine g_aload_n hF (by decide +kernel : decode cX5_meanSize 0 = .ok (.aload_n 0, 1)) rfl ?_
  refine g_iconst hF (by decide +kernel : decode cX5_meanSize 1 = .ok (.iconst 0, 1)) ?_
  refine g_putC hF lkPX5_31 (by decide +kernel : decode cX5_meanSize 2 = .ok (.putfield 31, 3)) jok51 rfl rfl (Or.inl rfl) ?_
  refine g_iconst hF (by decide +kernel : decode cX5_meanSize 5 = .ok (.iconst 0, 1)) ?_
  refine g_istore_n hF (by decide +kernel : decode cX5_meanSize 6 = .ok (.istore_n 1, 1)) (by decide) ?_
  refine g_iconst hF (by decide +kernel : decode cX5_meanSize 7 = .ok (.iconst 0, 1)) ?_
  refine g_istore_n hF (by decide +kernel : decode cX5_meanSize 8 = .ok (.istore_n 2, 1)) (by decide) ?_
  have loop : ∀ (n s : Nat) (a : Int), s ≤ 8 → 9 ≤ s + n → a = sizeB m s → jG F X (mset m 51 2 0) 9 [(0, vR 2 51), (1, vI a), (2, vI s)] [] := by
    intro n
    induction n with
    | zero => intro s a h1 h2; exact absurd h2 (by omega)
    | succ n ih =>
      intro s a h1 h2 ha
      refine g_iload_n hF (by decide +kernel : decode cX5_meanSize 9 = .ok (.iload_n 2, 1)) rfl ?_
      refine g_bipush hF (by decide +kernel : decode cX5_meanSize 10 = .ok (.bipush 8, 2)) (by decide) ?_
      refine g_icmp_ge hF (tgt := 29) (by decide +kernel : decode cX5_meanSize 12 = .ok (.if_icmp .ge 17, 3)) (by decide) (by omega) (by omega) (fun c12 => ?_) (fun c12 => ?_)
      · skip
        refine g_iload_n hF (by decide +kernel : decode cX5_meanSize 29 = .ok (.iload_n 1, 1)) rfl ?_
        refine g_i2d hF (by decide +kernel : decode cX5_meanSize 30 = .ok (.i2d, 1)) ?_
        refine g_ldc2d hF kdX5_110 (by decide +kernel : decode cX5_meanSize 31 = .ok (.ldc2_w 110, 3)) ?_
        refine g_ddiv hF (by decide +kernel : decode cX5_meanSize 34 = .ok (.ddiv, 1)) (mean_n _) ?_
        refine g_dreturn hF hQ (by decide +kernel : decode cX5_meanSize 35 = .ok (.dreturn, 1)) ?_
        exact ⟨by rw [ha, show s = 8 by omega], S0, z0⟩
      · skip
        have hm0 : rowok (mR (mset m 51 2 0) s) := by rw [r0]; exact hI.1 s (by omega)
        have hr := hI.1 s (by omega)
        refine g_iload_n hF (by decide +kernel : decode cX5_meanSize 15 = .ok (.iload_n 1, 1)) rfl ?_
        refine g_aload_n hF (by decide +kernel : decode cX5_meanSize 16 = .ok (.aload_n 0, 1)) rfl ?_
        refine g_iload_n hF (by decide +kernel : decode cX5_meanSize 17 = .ok (.iload_n 2, 1)) rfl ?_
        refine g_callV hF lkX5_68 (c_X5_many X hX _ (by omega) _ (by assumption)) (by decide +kernel : decode cX5_meanSize 18 = .ok (.invokevirtual 68, 3)) (by decide) rfl rfl rfl rfl jok51 (Nat.le_of_ble_eq_true rfl) (fun v18 m18 h18 => ?_)
        obtain ⟨rfl, e18⟩ := h18
        obtain rfl := e18.symm
        rw [r0]
        refine g_iadd hF (by decide +kernel : decode cX5_meanSize 21 = .ok (.iadd, 1)) ?_
        refine g_istore_n hF (by decide +kernel : decode cX5_meanSize 22 = .ok (.istore_n 1, 1)) (by decide) ?_
        refine g_iinc hF (by decide +kernel : decode cX5_meanSize 23 = .ok (.iinc 2 1, 3)) rfl (by decide) ?_
        refine g_goto hF (tgt := 9) (by decide +kernel : decode cX5_meanSize 26 = .ok (.goto (-17), 3)) (by decide) ?_
        exact ih (s + 1) _ (by omega) (by omega) (by unfold sizeB at ha ⊢; rw [sumN_s, ← ha, Int.toNat_natCast])
  exact loop 9 0 0 (by omega) (by omega) (sumN_0 _).symm
set_option maxHeartbeats 4000000 in
set_option maxRecDepth 100000 in
theorem c_X5_checksum (X : jX) (hX : jxok X) (w : Nat) (m : jM) (hI : MI m) (hw : mwok m w) : Con X yX5_checksum cX5_checksum 5 (some .long) 8 [vR 2 51] m (fun o m' => o = some (vL (ckR (m 55) (m 56) w (ckB m 8) w)) ∧ MSm m m' ∧ m' 51 2 = 0) := by
  refine Con.of hX (by decide) (Nat.le_of_ble_eq_true rfl) (fun F hF hQ => ?_)
  have S0 : MSm m (mset m 51 2 0) := MSm_code m (Or.inl rfl) 0
  have z0 : (mset m 51 2 0) 51 2 = 0 := mset_at _ _ _ _
  have r0 : ∀ t : Nat, mR (mset m 51 2 0) t = mR m t := fun t => mR_52 (mset_ne (by decide)) t
  have hw60 := hw.1
  have w0 : (mset m 51 2 0) 51 0 = w := by rw [S0.2.1, hw.2.1]
  have e55 : (mset m 51 2 0) 55 = m 55 := mset_ne (by decide)
  have e56 : (mset m 51 2 0) 56 = m 56 := mset_ne (by decide)
  refine g_aload_n hF (by decide +kernel : decode cX5_checksum 0 = .ok (.aload_n 0, 1)) rfl ?_
  refine g_iconst hF (by decide +kernel : decode cX5_checksum 1 = .ok (.iconst 0, 1)) ?_
  refine g_putC hF lkPX5_31 (by decide +kernel : decode cX5_checksum 2 = .ok (.putfield 31, 3)) jok51 rfl rfl (Or.inl rfl) ?_
  refine g_ldc2 hF klX5_112 (by decide +kernel : decode cX5_checksum 5 = .ok (.ldc2_w 112, 3)) ?_
  refine g_lstore_n hF (by decide +kernel : decode cX5_checksum 8 = .ok (.lstore_n 1, 1)) (by decide) ?_
  refine g_iconst hF (by decide +kernel : decode cX5_checksum 9 = .ok (.iconst 0, 1)) ?_
  refine g_istore_n hF (by decide +kernel : decode cX5_checksum 10 = .ok (.istore_n 3, 1)) (by decide) ?_
  have loop : ∀ (n s : Nat) (a : Int), s ≤ 8 → 9 ≤ s + n → a = ckB m s → jG F X (mset m 51 2 0) 11 [(0, vR 2 51), (1, vL a), (3, vI s)] [] := by
    intro n
    induction n with
    | zero => intro s a h1 h2; exact absurd h2 (by omega)
    | succ n ih =>
      intro s a h1 h2 ha
      subst ha
      have ih1 := ih
      refine g_iload_n hF (by decide +kernel : decode cX5_checksum 11 = .ok (.iload_n 3, 1)) rfl ?_
      refine g_bipush hF (by decide +kernel : decode cX5_checksum 12 = .ok (.bipush 8, 2)) (by decide) ?_
      refine g_icmp_ge hF (tgt := 88) (by decide +kernel : decode cX5_checksum 14 = .ok (.if_icmp .ge 74, 3)) (by decide) (by omega) (by omega) (fun c14 => ?_) (fun c14 => ?_)
      · skip
        refine g_ldc2 hF klX5_114 (by decide +kernel : decode cX5_checksum 88 = .ok (.ldc2_w 114, 3)) ?_
        refine g_lload_n hF (by decide +kernel : decode cX5_checksum 91 = .ok (.lload_n 1, 1)) rfl ?_
        refine g_lmul hF (by decide +kernel : decode cX5_checksum 92 = .ok (.lmul, 1)) ?_
        refine g_aload_n hF (by decide +kernel : decode cX5_checksum 93 = .ok (.aload_n 0, 1)) rfl ?_
        refine g_getC hF lkX5_99 (by decide +kernel : decode cX5_checksum 94 = .ok (.getfield 99, 3)) jok51 rfl rfl ?_
        rw [w0]
        refine g_i2l hF (by decide +kernel : decode cX5_checksum 97 = .ok (.i2l, 1)) (by omega) ?_
        refine g_ladd hF (by decide +kernel : decode cX5_checksum 98 = .ok (.ladd, 1)) ?_
        refine g_lstore_n hF (by decide +kernel : decode cX5_checksum 99 = .ok (.lstore_n 1, 1)) (by decide) ?_
        refine g_iconst hF (by decide +kernel : decode cX5_checksum 100 = .ok (.iconst 0, 1)) ?_
        refine g_istore_n hF (by decide +kernel : decode cX5_checksum 101 = .ok (.istore_n 3, 1)) (by decide) ?_
        have loop3 : ∀ (n i : Nat) (a : Int), i ≤ w → w + 1 ≤ i + n → a = ckR (m 55) (m 56) w (ckB m 8) i → jG F X (mset m 51 2 0) 102 [(0, vR 2 51), (1, vL a), (3, vI i)] [] := by
          intro n
          induction n with
          | zero => intro i a h1 h2; exact absurd h2 (by omega)
          | succ n ih =>
            intro i a k1 k2 ha
            refine g_iload_n hF (by decide +kernel : decode cX5_checksum 102 = .ok (.iload_n 3, 1)) rfl ?_
            refine g_aload_n hF (by decide +kernel : decode cX5_checksum 103 = .ok (.aload_n 0, 1)) rfl ?_
            refine g_getC hF lkX5_99 (by decide +kernel : decode cX5_checksum 104 = .ok (.getfield 99, 3)) jok51 rfl rfl ?_
            rw [w0]
            refine g_icmp_ge hF (tgt := 142) (by decide +kernel : decode cX5_checksum 107 = .ok (.if_icmp .ge 35, 3)) (by decide) (by omega) (by omega) (fun c107 => ?_) (fun c107 => ?_)
            · skip
              refine g_lload_n hF (by decide +kernel : decode cX5_checksum 142 = .ok (.lload_n 1, 1)) rfl ?_
              refine g_lreturn hF hQ (by decide +kernel : decode cX5_checksum 143 = .ok (.lreturn, 1)) ?_
              exact ⟨by rw [ha, show i = w by omega], S0, z0⟩
            · skip
              have kb := hw.2.2 i (by omega) (by omega)
              refine g_ldc2 hF klX5_114 (by decide +kernel : decode cX5_checksum 110 = .ok (.ldc2_w 114, 3)) ?_
              refine g_ldc2 hF klX5_114 (by decide +kernel : decode cX5_checksum 113 = .ok (.ldc2_w 114, 3)) ?_
              refine g_lload_n hF (by decide +kernel : decode cX5_checksum 116 = .ok (.lload_n 1, 1)) rfl ?_
              refine g_lmul hF (by decide +kernel : decode cX5_checksum 117 = .ok (.lmul, 1)) ?_
              refine g_aload_n hF (by decide +kernel : decode cX5_checksum 118 = .ok (.aload_n 0, 1)) rfl ?_
              refine g_getC hF lkX5_19 (by decide +kernel : decode cX5_checksum 119 = .ok (.getfield 19, 3)) jok51 rfl rfl ?_
              refine g_iload_n hF (by decide +kernel : decode cX5_checksum 122 = .ok (.iload_n 3, 1)) rfl ?_
              refine g_ldC hF (n := 60) (by decide +kernel : decode cX5_checksum 123 = .ok (.iaload, 1)) jrr55 rfl (by omega) ?_
              rw [e55]
              refine g_i2l hF (by decide +kernel : decode cX5_checksum 124 = .ok (.i2l, 1)) (by omega) ?_
              refine g_ladd hF (by decide +kernel : decode cX5_checksum 125 = .ok (.ladd, 1)) ?_
              refine g_lmul hF (by decide +kernel : decode cX5_checksum 126 = .ok (.lmul, 1)) ?_
              refine g_aload_n hF (by decide +kernel : decode cX5_checksum 127 = .ok (.aload_n 0, 1)) rfl ?_
              refine g_getC hF lkX5_22 (by decide +kernel : decode cX5_checksum 128 = .ok (.getfield 22, 3)) jok51 rfl rfl ?_
              refine g_iload_n hF (by decide +kernel : decode cX5_checksum 131 = .ok (.iload_n 3, 1)) rfl ?_
              refine g_ldC hF (n := 60) (by decide +kernel : decode cX5_checksum 132 = .ok (.iaload, 1)) jrr56 rfl (by omega) ?_
              rw [e56]
              refine g_i2l hF (by decide +kernel : decode cX5_checksum 133 = .ok (.i2l, 1)) (by omega) ?_
              refine g_ladd hF (by decide +kernel : decode cX5_checksum 134 = .ok (.ladd, 1)) ?_
              refine g_lstore_n hF (by decide +kernel : decode cX5_checksum 135 = .ok (.lstore_n 1, 1)) (by decide) ?_
              refine g_iinc hF (by decide +kernel : decode cX5_checksum 136 = .ok (.iinc 3 1, 3)) rfl (by decide) ?_
              refine g_goto hF (tgt := 102) (by decide +kernel : decode cX5_checksum 139 = .ok (.goto (-37), 3)) (by decide) ?_
              exact ih (i + 1) _ (by omega) (by omega) (by rw [ha, ckR_s])
        exact loop3 (w + 1) 0 _ (by omega) (by omega) (by rw [ckR_0, show s = 8 by omega])
      · skip
        have hm0 : rowok (mR (mset m 51 2 0) s) := by rw [r0]; exact hI.1 s (by omega)
        have hr := hI.1 s (by omega)
        have hcb := cnt_b (mR m s)
        refine g_ldc2 hF klX5_114 (by decide +kernel : decode cX5_checksum 17 = .ok (.ldc2_w 114, 3)) ?_
        refine g_lload_n hF (by decide +kernel : decode cX5_checksum 20 = .ok (.lload_n 1, 1)) rfl ?_
        refine g_lmul hF (by decide +kernel : decode cX5_checksum 21 = .ok (.lmul, 1)) ?_
        refine g_aload_n hF (by decide +kernel : decode cX5_checksum 22 = .ok (.aload_n 0, 1)) rfl ?_
        refine g_iload_n hF (by decide +kernel : decode cX5_checksum 23 = .ok (.iload_n 3, 1)) rfl ?_
        refine g_callV hF lkX5_68 (c_X5_many X hX _ (by omega) _ (by assumption)) (by decide +kernel : decode cX5_checksum 24 = .ok (.invokevirtual 68, 3)) (by decide) rfl rfl rfl rfl jok51 (Nat.le_of_ble_eq_true rfl) (fun v24 m24 h24 => ?_)
        obtain ⟨rfl, e24⟩ := h24
        obtain rfl := e24.symm
        rw [r0]
        refine g_i2l hF (by decide +kernel : decode cX5_checksum 27 = .ok (.i2l, 1)) (by omega) ?_
        refine g_ladd hF (by decide +kernel : decode cX5_checksum 28 = .ok (.ladd, 1)) ?_
        refine g_lstore_n hF (by decide +kernel : decode cX5_checksum 29 = .ok (.lstore_n 1, 1)) (by decide) ?_
        refine g_iconst hF (by decide +kernel : decode cX5_checksum 30 = .ok (.iconst (-1), 1)) ?_
        refine g_istore hF (by decide +kernel : decode cX5_checksum 31 = .ok (.istore 4, 2)) (by decide) ?_
        have loop2 : ∀ (n i : Nat) (a k : Int), i ≤ 257 → 258 ≤ i + n → k = i - 1 → a = ckT (mR m s) (ckB m s) i → jG F X (mset m 51 2 0) 33 [(0, vR 2 51), (1, vL a), (3, vI s), (4, vI k)] [] := by
          intro n
          induction n with
          | zero => intro i a k h1 h2; exact absurd h2 (by omega)
          | succ n ih =>
            intro i a k k1 k2 hk hc
            refine g_iload hF (by decide +kernel : decode cX5_checksum 33 = .ok (.iload 4, 2)) rfl ?_
            refine g_sipush hF (by decide +kernel : decode cX5_checksum 35 = .ok (.sipush 256, 3)) (by decide) ?_
            refine g_icmp_ge hF (tgt := 82) (by decide +kernel : decode cX5_checksum 38 = .ok (.if_icmp .ge 44, 3)) (by decide) (by omega) (by omega) (fun c38 => ?_) (fun c38 => ?_)
            · skip
              refine g_iinc hF (by decide +kernel : decode cX5_checksum 82 = .ok (.iinc 3 1, 3)) rfl (by decide) ?_
              refine g_goto hF (tgt := 11) (by decide +kernel : decode cX5_checksum 85 = .ok (.goto (-74), 3)) (by decide) ?_
              refine g_take 4 ?_
              exact ih1 (s + 1) _ (by omega) (by omega) (by rw [ckB_s, hc, show i = 257 by omega])
            · skip
              refine g_aload_n hF (by decide +kernel : decode cX5_checksum 41 = .ok (.aload_n 0, 1)) rfl ?_
              refine g_iload_n hF (by decide +kernel : decode cX5_checksum 42 = .ok (.iload_n 3, 1)) rfl ?_
              refine g_iload hF (by decide +kernel : decode cX5_checksum 43 = .ok (.iload 4, 2)) rfl ?_
              refine g_callV hF lkX5_60 (c_X5_at X hX _ (by omega) _ (show num _ from ⟨by omega, by omega⟩) _) (by decide +kernel : decode cX5_checksum 45 = .ok (.invokevirtual 60, 3)) (by decide) rfl rfl rfl rfl jok51 (Nat.le_of_ble_eq_true rfl) (fun v45 m45 h45 => ?_)
              obtain ⟨rfl, e45⟩ := h45
              obtain rfl := e45.symm
              rw [r0, show k + 1 = (i : Int) by omega]
              have hb := hr i (by omega) (by omega)
              refine g_bipush hF (by decide +kernel : decode cX5_checksum 48 = .ok (.bipush (-2), 2)) (by decide) ?_
              refine g_icmp_le hF (tgt := 76) (by decide +kernel : decode cX5_checksum 50 = .ok (.if_icmp .le 26, 3)) (by decide) (by omega) (by omega) (fun c50 => ?_) (fun c50 => ?_)
              · skip
                refine g_iinc hF (by decide +kernel : decode cX5_checksum 76 = .ok (.iinc 4 1, 3)) rfl (by decide) ?_
                refine g_goto hF (tgt := 33) (by decide +kernel : decode cX5_checksum 79 = .ok (.goto (-46), 3)) (by decide) ?_
                exact ih (i + 1) _ _ (by omega) (by omega) (by omega) (by rw [hc, ckT_skip (by omega)])
              · skip
                refine g_ldc2 hF klX5_114 (by decide +kernel : decode cX5_checksum 53 = .ok (.ldc2_w 114, 3)) ?_
                refine g_ldc2 hF klX5_114 (by decide +kernel : decode cX5_checksum 56 = .ok (.ldc2_w 114, 3)) ?_
                refine g_lload_n hF (by decide +kernel : decode cX5_checksum 59 = .ok (.lload_n 1, 1)) rfl ?_
                refine g_lmul hF (by decide +kernel : decode cX5_checksum 60 = .ok (.lmul, 1)) ?_
                refine g_iload hF (by decide +kernel : decode cX5_checksum 61 = .ok (.iload 4, 2)) rfl ?_
                refine g_i2l hF (by decide +kernel : decode cX5_checksum 63 = .ok (.i2l, 1)) (by omega) ?_
                refine g_ladd hF (by decide +kernel : decode cX5_checksum 64 = .ok (.ladd, 1)) ?_
                refine g_lmul hF (by decide +kernel : decode cX5_checksum 65 = .ok (.lmul, 1)) ?_
                refine g_aload_n hF (by decide +kernel : decode cX5_checksum 66 = .ok (.aload_n 0, 1)) rfl ?_
                refine g_iload_n hF (by decide +kernel : decode cX5_checksum 67 = .ok (.iload_n 3, 1)) rfl ?_
                refine g_iload hF (by decide +kernel : decode cX5_checksum 68 = .ok (.iload 4, 2)) rfl ?_
                refine g_callV hF lkX5_60 (c_X5_at X hX _ (by omega) _ (show num _ from ⟨by omega, by omega⟩) _) (by decide +kernel : decode cX5_checksum 70 = .ok (.invokevirtual 60, 3)) (by decide) rfl rfl rfl rfl jok51 (Nat.le_of_ble_eq_true rfl) (fun v70 m70 h70 => ?_)
                obtain ⟨rfl, e70⟩ := h70
                obtain rfl := e70.symm
                rw [r0, show k + 1 = (i : Int) by omega]
                refine g_i2l hF (by decide +kernel : decode cX5_checksum 73 = .ok (.i2l, 1)) (by omega) ?_
                refine g_ladd hF (by decide +kernel : decode cX5_checksum 74 = .ok (.ladd, 1)) ?_
                refine g_lstore_n hF (by decide +kernel : decode cX5_checksum 75 = .ok (.lstore_n 1, 1)) (by decide) ?_
                refine g_iinc hF (by decide +kernel : decode cX5_checksum 76 = .ok (.iinc 4 1, 3)) rfl (by decide) ?_
                refine g_goto hF (tgt := 33) (by decide +kernel : decode cX5_checksum 79 = .ok (.goto (-46), 3)) (by decide) ?_
                exact ih (i + 1) _ _ (by omega) (by omega) (by omega) (by rw [hc, ckT_add (by omega), hk])
        exact loop2 258 0 _ (-1) (by omega) (by omega) (by omega) (ckT_0 _ _).symm
  exact loop 9 0 7 (by omega) (by omega) (ckB_0 m).symm
set_option maxHeartbeats 4000000 in
set_option maxRecDepth 100000 in
theorem c_X5_isSound (X : jX) (hX : jxok X) (m : jM) : Con X yX5_isSound cX5_isSound 1 (some .boolean) 8 [vR 2 51] m (fun o m' => o = some (vI (1)) ∧ MSm m m' ∧ m' 51 2 = 0) := by
  refine Con.of hX (by decide) (Nat.le_of_ble_eq_true rfl) (fun F hF hQ => ?_)
  refine g_aload_n hF (by decide +kernel : decode cX5_isSound 0 = .ok (.aload_n 0, 1)) rfl ?_
  refine g_iconst hF (by decide +kernel : decode cX5_isSound 1 = .ok (.iconst 0, 1)) ?_
  refine g_putC hF lkPX5_31 (by decide +kernel : decode cX5_isSound 2 = .ok (.putfield 31, 3)) jok51 rfl rfl (Or.inl rfl) ?_
  refine g_iconst hF (by decide +kernel : decode cX5_isSound 5 = .ok (.iconst 1, 1)) ?_
  refine g_zreturn hF hQ (by decide +kernel : decode cX5_isSound 6 = .ok (.ireturn, 1)) (by first | exact Or.inl rfl | exact Or.inr rfl | omega) ?_
  exact ⟨rfl, MSm_code m (Or.inl rfl) 0, mset_at _ _ _ _⟩

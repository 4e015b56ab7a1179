set_option maxHeartbeats 4000000 in
set_option maxRecDepth 100000 in
theorem c_X5_get (X : jX) (hX : jxok X) (s : Nat) (hs : s < 8) (k : Int) (hk : num k) (m : jM) (hI : MI m) : Con X yX5_get cX5_get 3 (some .int) 8 [vR 2 51, vI s, vI k] m (fun o m' => o = some (vI (tat (mR m s) k)) ∧ MSm m m' ∧ m' 51 2 = 0) := by
  refine Con.of hX (by decide) (Nat.le_of_ble_eq_true rfl) (fun F hF hQ => ?_)
  have hr := hI.1 s hs
  have hk2 : -1 ≤ k ∧ k ≤ 255 := hk
  refine g_aload_n hF (by decide +kernel : decode cX5_get 0 = .ok (.aload_n 0, 1)) rfl ?_
  refine g_aload_n hF (by decide +kernel : decode cX5_get 1 = .ok (.aload_n 0, 1)) rfl ?_
  refine g_iload_n hF (by decide +kernel : decode cX5_get 2 = .ok (.iload_n 1, 1)) rfl ?_
  refine g_iload_n hF (by decide +kernel : decode cX5_get 3 = .ok (.iload_n 2, 1)) rfl ?_
  refine g_iconst hF (by decide +kernel : decode cX5_get 4 = .ok (.iconst 0, 1)) ?_
  refine g_iconst hF (by decide +kernel : decode cX5_get 5 = .ok (.iconst 0, 1)) ?_
  refine g_callV hF lkX5_49 (y_X5_no X hX _ (by omega) _ _ _ (by omega) (by omega) (by omega) (by unfold num; omega) _) (by decide +kernel : decode cX5_get 6 = .ok (.invokevirtual 49, 3)) (by decide) rfl rfl rfl rfl jok51 (Nat.le_of_ble_eq_true rfl) (fun v6 m6 h6 => ?_)
  obtain ⟨rfl, e6⟩ := h6
  obtain rfl := e6.symm
  refine g_callV hF lkX5_53 (y_X5_fails X hX _) (by decide +kernel : decode cX5_get 9 = .ok (.invokevirtual 53, 3)) (by decide) rfl rfl rfl rfl jok51 (Nat.le_of_ble_eq_true rfl) (fun v9 m9 h9 => ?_)
  obtain ⟨rfl, e9⟩ := h9
  have S0 : MSm m m9 := by rw [e9]; exact MSm_code m (Or.inl rfl) 0
  have I0 := MI_S hI S0
  have z0 : m9 51 2 = 0 := by rw [e9, mset_at]
  have r0 : ∀ t : Nat, mR m9 t = mR m t := fun t => mR_52 (S0.1 52 (by decide) (by decide) (by decide)) t
  refine g_if_eq hF (tgt := 19) (by decide +kernel : decode cX5_get 12 = .ok (.ifCond .eq 7, 3)) (by decide) (by omega) (fun c12 => ?_) (fun c12 => ?_)
  · skip
    refine g_aload_n hF (by decide +kernel : decode cX5_get 19 = .ok (.aload_n 0, 1)) rfl ?_
    refine g_iload_n hF (by decide +kernel : decode cX5_get 20 = .ok (.iload_n 1, 1)) rfl ?_
    refine g_iload_n hF (by decide +kernel : decode cX5_get 21 = .ok (.iload_n 2, 1)) rfl ?_
    refine g_callV hF lkX5_60 (c_X5_at X hX _ (by omega) _ (show num _ from ⟨by omega, by omega⟩) _) (by decide +kernel : decode cX5_get 22 = .ok (.invokevirtual 60, 3)) (by decide) rfl rfl rfl rfl jok51 (Nat.le_of_ble_eq_true rfl) (fun v22 m22 h22 => ?_)
    obtain ⟨rfl, e22⟩ := h22
    obtain rfl := e22.symm
    rw [show mR m9 s (k + 1) = tat (mR m s) k by rw [r0, tat_in hk2]]
    have hb := tat_b hr k
    refine g_ireturn hF hQ (by decide +kernel : decode cX5_get 25 = .ok (.ireturn, 1)) ?_
    exact ⟨rfl, S0, z0⟩
  · skip
    exact absurd c12 (by decide)
set_option maxHeartbeats 4000000 in
set_option maxRecDepth 100000 in
theorem n1_X5_get (X : jX) (hX : jxok X) (s : Int) (js : jr s) (k : Int) (jk : jr k) (m : jM) (h : ¬ (0 ≤ s ∧ s < 8)) : Con X yX5_get cX5_get 3 (some .int) 8 [vR 2 51, vI s, vI k] m (fun o m' => o = some (vI 0) ∧ m' = mset m 51 2 1) := by
  refine Con.of hX (by decide) (Nat.le_of_ble_eq_true rfl) (fun F hF hQ => ?_)
  refine g_aload_n hF (by decide +kernel : decode cX5_get 0 = .ok (.aload_n 0, 1)) rfl ?_
  refine g_aload_n hF (by decide +kernel : decode cX5_get 1 = .ok (.aload_n 0, 1)) rfl ?_
  refine g_iload_n hF (by decide +kernel : decode cX5_get 2 = .ok (.iload_n 1, 1)) rfl ?_
  refine g_iload_n hF (by decide +kernel : decode cX5_get 3 = .ok (.iload_n 2, 1)) rfl ?_
  refine g_iconst hF (by decide +kernel : decode cX5_get 4 = .ok (.iconst 0, 1)) ?_
  refine g_iconst hF (by decide +kernel : decode cX5_get 5 = .ok (.iconst 0, 1)) ?_
  refine g_callV hF lkX5_49 (n1_X5_no X hX _ (by omega) (by omega) _ _ _ _) (by decide +kernel : decode cX5_get 6 = .ok (.invokevirtual 49, 3)) (by decide) rfl rfl rfl rfl jok51 (Nat.le_of_ble_eq_true rfl) (fun v6 m6 h6 => ?_)
  obtain ⟨rfl, e6⟩ := h6
  obtain rfl := e6.symm
  refine g_callV hF lkX5_53 (n_X5_fails X hX _ (by decide) _) (by decide +kernel : decode cX5_get 9 = .ok (.invokevirtual 53, 3)) (by decide) rfl rfl rfl rfl jok51 (Nat.le_of_ble_eq_true rfl) (fun v9 m9 h9 => ?_)
  obtain ⟨rfl, e9⟩ := h9
  obtain rfl := e9.symm
  refine g_if_eq hF (tgt := 19) (by decide +kernel : decode cX5_get 12 = .ok (.ifCond .eq 7, 3)) (by decide) (by omega) (fun c12 => ?_) (fun c12 => ?_)
  · skip
    exact absurd c12 (by decide)
  · skip
    refine g_iconst hF (by decide +kernel : decode cX5_get 15 = .ok (.iconst 0, 1)) ?_
    refine g_goto hF (tgt := 25) (by decide +kernel : decode cX5_get 16 = .ok (.goto 9, 3)) (by decide) ?_
    refine g_ireturn hF hQ (by decide +kernel : decode cX5_get 25 = .ok (.ireturn, 1)) ?_
    exact ⟨rfl, rfl⟩
set_option maxHeartbeats 4000000 in
set_option maxRecDepth 100000 in
theorem n2_X5_get (X : jX) (hX : jxok X) (s : Nat) (hs : s < 8) (k : Int) (jk : jr k) (m : jM) (h : ¬ (num k)) : Con X yX5_get cX5_get 3 (some .int) 8 [vR 2 51, vI s, vI k] m (fun o m' => o = some (vI 0) ∧ m' = mset m 51 2 2) := by
  refine Con.of hX (by decide) (Nat.le_of_ble_eq_true rfl) (fun F hF hQ => ?_)
  refine g_aload_n hF (by decide +kernel : decode cX5_get 0 = .ok (.aload_n 0, 1)) rfl ?_
  refine g_aload_n hF (by decide +kernel : decode cX5_get 1 = .ok (.aload_n 0, 1)) rfl ?_
  refine g_iload_n hF (by decide +kernel : decode cX5_get 2 = .ok (.iload_n 1, 1)) rfl ?_
  refine g_iload_n hF (by decide +kernel : decode cX5_get 3 = .ok (.iload_n 2, 1)) rfl ?_
  refine g_iconst hF (by decide +kernel : decode cX5_get 4 = .ok (.iconst 0, 1)) ?_
  refine g_iconst hF (by decide +kernel : decode cX5_get 5 = .ok (.iconst 0, 1)) ?_
  refine g_callV hF lkX5_49 (n2_X5_no X hX _ (by omega) _ _ _ (by omega) (by omega) (by omega) (fun q => h q.1) _) (by decide +kernel : decode cX5_get 6 = .ok (.invokevirtual 49, 3)) (by decide) rfl rfl rfl rfl jok51 (Nat.le_of_ble_eq_true rfl) (fun v6 m6 h6 => ?_)
  obtain ⟨rfl, e6⟩ := h6
  obtain rfl := e6.symm
  refine g_callV hF lkX5_53 (n_X5_fails X hX _ (by decide) _) (by decide +kernel : decode cX5_get 9 = .ok (.invokevirtual 53, 3)) (by decide) rfl rfl rfl rfl jok51 (Nat.le_of_ble_eq_true rfl) (fun v9 m9 h9 => ?_)
  obtain ⟨rfl, e9⟩ := h9
  obtain rfl := e9.symm
  refine g_if_eq hF (tgt := 19) (by decide +kernel : decode cX5_get 12 = .ok (.ifCond .eq 7, 3)) (by decide) (by omega) (fun c12 => ?_) (fun c12 => ?_)
  · skip
    exact absurd c12 (by decide)
  · skip
    refine g_iconst hF (by decide +kernel : decode cX5_get 15 = .ok (.iconst 0, 1)) ?_
    refine g_goto hF (tgt := 25) (by decide +kernel : decode cX5_get 16 = .ok (.goto 9, 3)) (by decide) ?_
    refine g_ireturn hF hQ (by decide +kernel : decode cX5_get 25 = .ok (.ireturn, 1)) ?_
    exact ⟨rfl, rfl⟩
set_option maxHeartbeats 4000000 in
set_option maxRecDepth 100000 in
theorem c_X5_getOr (X : jX) (hX : jxok X) (s : Nat) (hs : s < 8) (k v : Int) (hk : num k) (hv : num v) (m : jM) (hI : MI m) : Con X yX5_getOr cX5_getOr 4 (some .int) 8 [vR 2 51, vI s, vI k, vI v] m (fun o m' => o = some (vI (if tat (mR m s) k = -2 then v else tat (mR m s) k)) ∧ MSm m m' ∧ m' 51 2 = 0) := by
  refine Con.of hX (by decide) (Nat.le_of_ble_eq_true rfl) (fun F hF hQ => ?_)
  have hr := hI.1 s hs
  have hk2 : -1 ≤ k ∧ k ≤ 255 := hk
  have hv2 : -1 ≤ v ∧ v ≤ 255 := hv
  refine g_aload_n hF (by decide +kernel : decode cX5_getOr 0 = .ok (.aload_n 0, 1)) rfl ?_
  refine g_aload_n hF (by decide +kernel : decode cX5_getOr 1 = .ok (.aload_n 0, 1)) rfl ?_
  refine g_iload_n hF (by decide +kernel : decode cX5_getOr 2 = .ok (.iload_n 1, 1)) rfl ?_
  refine g_iload_n hF (by decide +kernel : decode cX5_getOr 3 = .ok (.iload_n 2, 1)) rfl ?_
  refine g_iload_n hF (by decide +kernel : decode cX5_getOr 4 = .ok (.iload_n 3, 1)) rfl ?_
  refine g_iconst hF (by decide +kernel : decode cX5_getOr 5 = .ok (.iconst 0, 1)) ?_
  refine g_callV hF lkX5_49 (y_X5_no X hX _ (by omega) _ _ _ (by omega) (by omega) (by omega) (by unfold num; omega) _) (by decide +kernel : decode cX5_getOr 6 = .ok (.invokevirtual 49, 3)) (by decide) rfl rfl rfl rfl jok51 (Nat.le_of_ble_eq_true rfl) (fun v6 m6 h6 => ?_)
  obtain ⟨rfl, e6⟩ := h6
  obtain rfl := e6.symm
  refine g_callV hF lkX5_53 (y_X5_fails X hX _) (by decide +kernel : decode cX5_getOr 9 = .ok (.invokevirtual 53, 3)) (by decide) rfl rfl rfl rfl jok51 (Nat.le_of_ble_eq_true rfl) (fun v9 m9 h9 => ?_)
  obtain ⟨rfl, e9⟩ := h9
  have S0 : MSm m m9 := by rw [e9]; exact MSm_code m (Or.inl rfl) 0
  have I0 := MI_S hI S0
  have z0 : m9 51 2 = 0 := by rw [e9, mset_at]
  have r0 : ∀ t : Nat, mR m9 t = mR m t := fun t => mR_52 (S0.1 52 (by decide) (by decide) (by decide)) t
  refine g_if_eq hF (tgt := 17) (by decide +kernel : decode cX5_getOr 12 = .ok (.ifCond .eq 5, 3)) (by decide) (by omega) (fun c12 => ?_) (fun c12 => ?_)
  · skip
    refine g_aload_n hF (by decide +kernel : decode cX5_getOr 17 = .ok (.aload_n 0, 1)) rfl ?_
    refine g_iload_n hF (by decide +kernel : decode cX5_getOr 18 = .ok (.iload_n 1, 1)) rfl ?_
    refine g_iload_n hF (by decide +kernel : decode cX5_getOr 19 = .ok (.iload_n 2, 1)) rfl ?_
    refine g_callV hF lkX5_60 (c_X5_at X hX _ (by omega) _ (show num _ from ⟨by omega, by omega⟩) _) (by decide +kernel : decode cX5_getOr 20 = .ok (.invokevirtual 60, 3)) (by decide) rfl rfl rfl rfl jok51 (Nat.le_of_ble_eq_true rfl) (fun v20 m20 h20 => ?_)
    obtain ⟨rfl, e20⟩ := h20
    obtain rfl := e20.symm
    rw [show mR m9 s (k + 1) = tat (mR m s) k by rw [r0, tat_in hk2]]
    have hb := tat_b hr k
    refine g_bipush hF (by decide +kernel : decode cX5_getOr 23 = .ok (.bipush (-2), 2)) (by decide) ?_
    refine g_icmp_ne hF (tgt := 32) (by decide +kernel : decode cX5_getOr 25 = .ok (.if_icmp .ne 7, 3)) (by decide) (by omega) (by omega) (fun c25 => ?_) (fun c25 => ?_)
    · skip
      refine g_aload_n hF (by decide +kernel : decode cX5_getOr 32 = .ok (.aload_n 0, 1)) rfl ?_
      refine g_iload_n hF (by decide +kernel : decode cX5_getOr 33 = .ok (.iload_n 1, 1)) rfl ?_
      refine g_iload_n hF (by decide +kernel : decode cX5_getOr 34 = .ok (.iload_n 2, 1)) rfl ?_
      refine g_callV hF lkX5_60 (c_X5_at X hX _ (by omega) _ (show num _ from ⟨by omega, by omega⟩) _) (by decide +kernel : decode cX5_getOr 35 = .ok (.invokevirtual 60, 3)) (by decide) rfl rfl rfl rfl jok51 (Nat.le_of_ble_eq_true rfl) (fun v35 m35 h35 => ?_)
      obtain ⟨rfl, e35⟩ := h35
      obtain rfl := e35.symm
      rw [show mR m9 s (k + 1) = tat (mR m s) k by rw [r0, tat_in hk2]]
      have hb := tat_b hr k
      refine g_ireturn hF hQ (by decide +kernel : decode cX5_getOr 38 = .ok (.ireturn, 1)) ?_
      exact ⟨by rw [if_neg c25], S0, z0⟩
    · skip
      refine g_iload_n hF (by decide +kernel : decode cX5_getOr 28 = .ok (.iload_n 3, 1)) rfl ?_
      refine g_goto hF (tgt := 38) (by decide +kernel : decode cX5_getOr 29 = .ok (.goto 9, 3)) (by decide) ?_
      refine g_ireturn hF hQ (by decide +kernel : decode cX5_getOr 38 = .ok (.ireturn, 1)) ?_
      exact ⟨by rw [if_pos c25], S0, z0⟩
  · skip
    exact absurd c12 (by decide)
set_option maxHeartbeats 4000000 in
set_option maxRecDepth 100000 in
theorem n1_X5_getOr (X : jX) (hX : jxok X) (s : Int) (js : jr s) (k : Int) (jk : jr k) (v : Int) (jv : jr v) (m : jM) (h : ¬ (0 ≤ s ∧ s < 8)) : Con X yX5_getOr cX5_getOr 4 (some .int) 8 [vR 2 51, vI s, vI k, vI v] m (fun o m' => o = some (vI 0) ∧ m' = mset m 51 2 1) := by
  refine Con.of hX (by decide) (Nat.le_of_ble_eq_true rfl) (fun F hF hQ => ?_)
  refine g_aload_n hF (by decide +kernel : decode cX5_getOr 0 = .ok (.aload_n 0, 1)) rfl ?_
  refine g_aload_n hF (by decide +kernel : decode cX5_getOr 1 = .ok (.aload_n 0, 1)) rfl ?_
  refine g_iload_n hF (by decide +kernel : decode cX5_getOr 2 = .ok (.iload_n 1, 1)) rfl ?_
  refine g_iload_n hF (by decide +kernel : decode cX5_getOr 3 = .ok (.iload_n 2, 1)) rfl ?_
  refine g_iload_n hF (by decide +kernel : decode cX5_getOr 4 = .ok (.iload_n 3, 1)) rfl ?_
  refine g_iconst hF (by decide +kernel : decode cX5_getOr 5 = .ok (.iconst 0, 1)) ?_
  refine g_callV hF lkX5_49 (n1_X5_no X hX _ (by omega) (by omega) _ _ _ _) (by decide +kernel : decode cX5_getOr 6 = .ok (.invokevirtual 49, 3)) (by decide) rfl rfl rfl rfl jok51 (Nat.le_of_ble_eq_true rfl) (fun v6 m6 h6 => ?_)
  obtain ⟨rfl, e6⟩ := h6
  obtain rfl := e6.symm
  refine g_callV hF lkX5_53 (n_X5_fails X hX _ (by decide) _) (by decide +kernel : decode cX5_getOr 9 = .ok (.invokevirtual 53, 3)) (by decide) rfl rfl rfl rfl jok51 (Nat.le_of_ble_eq_true rfl) (fun v9 m9 h9 => ?_)
  obtain ⟨rfl, e9⟩ := h9
  obtain rfl := e9.symm
  refine g_if_eq hF (tgt := 17) (by decide +kernel : decode cX5_getOr 12 = .ok (.ifCond .eq 5, 3)) (by decide) (by omega) (fun c12 => ?_) (fun c12 => ?_)
  · skip
    exact absurd c12 (by decide)
  · skip
    refine g_iconst hF (by decide +kernel : decode cX5_getOr 15 = .ok (.iconst 0, 1)) ?_
    refine g_ireturn hF hQ (by decide +kernel : decode cX5_getOr 16 = .ok (.ireturn, 1)) ?_
    exact ⟨rfl, rfl⟩
set_option maxHeartbeats 4000000 in
set_option maxRecDepth 100000 in
theorem n2_X5_getOr (X : jX) (hX : jxok X) (s : Nat) (hs : s < 8) (k : Int) (jk : jr k) (v : Int) (jv : jr v) (m : jM) (h : ¬ (num k ∧ num v)) : Con X yX5_getOr cX5_getOr 4 (some .int) 8 [vR 2 51, vI s, vI k, vI v] m (fun o m' => o = some (vI 0) ∧ m' = mset m 51 2 2) := by
  refine Con.of hX (by decide) (Nat.le_of_ble_eq_true rfl) (fun F hF hQ => ?_)
  refine g_aload_n hF (by decide +kernel : decode cX5_getOr 0 = .ok (.aload_n 0, 1)) rfl ?_
  refine g_aload_n hF (by decide +kernel : decode cX5_getOr 1 = .ok (.aload_n 0, 1)) rfl ?_
  refine g_iload_n hF (by decide +kernel : decode cX5_getOr 2 = .ok (.iload_n 1, 1)) rfl ?_
  refine g_iload_n hF (by decide +kernel : decode cX5_getOr 3 = .ok (.iload_n 2, 1)) rfl ?_
  refine g_iload_n hF (by decide +kernel : decode cX5_getOr 4 = .ok (.iload_n 3, 1)) rfl ?_
  refine g_iconst hF (by decide +kernel : decode cX5_getOr 5 = .ok (.iconst 0, 1)) ?_
  refine g_callV hF lkX5_49 (n2_X5_no X hX _ (by omega) _ _ _ (by omega) (by omega) (by omega) (fun q => h ⟨q.1, q.2.1⟩) _) (by decide +kernel : decode cX5_getOr 6 = .ok (.invokevirtual 49, 3)) (by decide) rfl rfl rfl rfl jok51 (Nat.le_of_ble_eq_true rfl) (fun v6 m6 h6 => ?_)
  obtain ⟨rfl, e6⟩ := h6
  obtain rfl := e6.symm
  refine g_callV hF lkX5_53 (n_X5_fails X hX _ (by decide) _) (by decide +kernel : decode cX5_getOr 9 = .ok (.invokevirtual 53, 3)) (by decide) rfl rfl rfl rfl jok51 (Nat.le_of_ble_eq_true rfl) (fun v9 m9 h9 => ?_)
  obtain ⟨rfl, e9⟩ := h9
  obtain rfl := e9.symm
  refine g_if_eq hF (tgt := 17) (by decide +kernel : decode cX5_getOr 12 = .ok (.ifCond .eq 5, 3)) (by decide) (by omega) (fun c12 => ?_) (fun c12 => ?_)
  · skip
    exact absurd c12 (by decide)
  · skip
    refine g_iconst hF (by decide +kernel : decode cX5_getOr 15 = .ok (.iconst 0, 1)) ?_
    refine g_ireturn hF hQ (by decide +kernel : decode cX5_getOr 16 = .ok (.ireturn, 1)) ?_
    exact ⟨rfl, rfl⟩
set_option maxHeartbeats 4000000 in
set_option maxRecDepth 100000 in
theorem c_X5_has (X : jX) (hX : jxok X) (s : Nat) (hs : s < 8) (k : Int) (hk : num k) (m : jM) (hI : MI m) : Con X yX5_has cX5_has 3 (some .boolean) 8 [vR 2 51, vI s, vI k] m (fun o m' => o = some (vI (if tat (mR m s) k = -2 then 0 else 1)) ∧ MSm m m' ∧ m' 51 2 = 0) := by
  refine Con.of hX (by decide) (Nat.le_of_ble_eq_true rfl) (fun F hF hQ => ?_)
  have hr := hI.1 s hs
  have hk2 : -1 ≤ k ∧ k ≤ 255 := hk
  refine g_aload_n hF (by decide +kernel : decode cX5_has 0 = .ok (.aload_n 0, 1)) rfl ?_
  refine g_aload_n hF (by decide +kernel : decode cX5_has 1 = .ok (.aload_n 0, 1)) rfl ?_
  refine g_iload_n hF (by decide +kernel : decode cX5_has 2 = .ok (.iload_n 1, 1)) rfl ?_
  refine g_iload_n hF (by decide +kernel : decode cX5_has 3 = .ok (.iload_n 2, 1)) rfl ?_
  refine g_iconst hF (by decide +kernel : decode cX5_has 4 = .ok (.iconst 0, 1)) ?_
  refine g_iconst hF (by decide +kernel : decode cX5_has 5 = .ok (.iconst 0, 1)) ?_
  refine g_callV hF lkX5_49 (y_X5_no X hX _ (by omega) _ _ _ (by omega) (by omega) (by omega) (by unfold num; omega) _) (by decide +kernel : decode cX5_has 6 = .ok (.invokevirtual 49, 3)) (by decide) rfl rfl rfl rfl jok51 (Nat.le_of_ble_eq_true rfl) (fun v6 m6 h6 => ?_)
  obtain ⟨rfl, e6⟩ := h6
  obtain rfl := e6.symm
  refine g_callV hF lkX5_53 (y_X5_fails X hX _) (by decide +kernel : decode cX5_has 9 = .ok (.invokevirtual 53, 3)) (by decide) rfl rfl rfl rfl jok51 (Nat.le_of_ble_eq_true rfl) (fun v9 m9 h9 => ?_)
  obtain ⟨rfl, e9⟩ := h9
  have S0 : MSm m m9 := by rw [e9]; exact MSm_code m (Or.inl rfl) 0
  have I0 := MI_S hI S0
  have z0 : m9 51 2 = 0 := by rw [e9, mset_at]
  have r0 : ∀ t : Nat, mR m9 t = mR m t := fun t => mR_52 (S0.1 52 (by decide) (by decide) (by decide)) t
  refine g_if_ne hF (tgt := 30) (by decide +kernel : decode cX5_has 12 = .ok (.ifCond .ne 18, 3)) (by decide) (by omega) (fun c12 => ?_) (fun c12 => ?_)
  · skip
    exact absurd c12 (by decide)
  · skip
    refine g_aload_n hF (by decide +kernel : decode cX5_has 15 = .ok (.aload_n 0, 1)) rfl ?_
    refine g_iload_n hF (by decide +kernel : decode cX5_has 16 = .ok (.iload_n 1, 1)) rfl ?_
    refine g_iload_n hF (by decide +kernel : decode cX5_has 17 = .ok (.iload_n 2, 1)) rfl ?_
    refine g_callV hF lkX5_60 (c_X5_at X hX _ (by omega) _ (show num _ from ⟨by omega, by omega⟩) _) (by decide +kernel : decode cX5_has 18 = .ok (.invokevirtual 60, 3)) (by decide) rfl rfl rfl rfl jok51 (Nat.le_of_ble_eq_true rfl) (fun v18 m18 h18 => ?_)
    obtain ⟨rfl, e18⟩ := h18
    obtain rfl := e18.symm
    rw [show mR m9 s (k + 1) = tat (mR m s) k by rw [r0, tat_in hk2]]
    have hb := tat_b hr k
    refine g_bipush hF (by decide +kernel : decode cX5_has 21 = .ok (.bipush (-2), 2)) (by decide) ?_
    refine g_icmp_le hF (tgt := 30) (by decide +kernel : decode cX5_has 23 = .ok (.if_icmp .le 7, 3)) (by decide) (by omega) (by omega) (fun c23 => ?_) (fun c23 => ?_)
    · skip
      refine g_iconst hF (by decide +kernel : decode cX5_has 30 = .ok (.iconst 0, 1)) ?_
      refine g_zreturn hF hQ (by decide +kernel : decode cX5_has 31 = .ok (.ireturn, 1)) (by first | exact Or.inl rfl | exact Or.inr rfl) ?_
      exact ⟨by rw [if_pos (by omega)], S0, z0⟩
    · skip
      refine g_iconst hF (by decide +kernel : decode cX5_has 26 = .ok (.iconst 1, 1)) ?_
      refine g_goto hF (tgt := 31) (by decide +kernel : decode cX5_has 27 = .ok (.goto 4, 3)) (by decide) ?_
      refine g_zreturn hF hQ (by decide +kernel : decode cX5_has 31 = .ok (.ireturn, 1)) (by first | exact Or.inl rfl | exact Or.inr rfl) ?_
      exact ⟨by rw [if_neg (by omega)], S0, z0⟩
set_option maxHeartbeats 4000000 in
set_option maxRecDepth 100000 in
theorem n1_X5_has (X : jX) (hX : jxok X) (s : Int) (js : jr s) (k : Int) (jk : jr k) (m : jM) (h : ¬ (0 ≤ s ∧ s < 8)) : Con X yX5_has cX5_has 3 (some .boolean) 8 [vR 2 51, vI s, vI k] m (fun o m' => o = some (vI 0) ∧ m' = mset m 51 2 1) := by
  refine Con.of hX (by decide) (Nat.le_of_ble_eq_true rfl) (fun F hF hQ => ?_)
  refine g_aload_n hF (by decide +kernel : decode cX5_has 0 = .ok (.aload_n 0, 1)) rfl ?_
  refine g_aload_n hF (by decide +kernel : decode cX5_has 1 = .ok (.aload_n 0, 1)) rfl ?_
  refine g_iload_n hF (by decide +kernel : decode cX5_has 2 = .ok (.iload_n 1, 1)) rfl ?_
  refine g_iload_n hF (by decide +kernel : decode cX5_has 3 = .ok (.iload_n 2, 1)) rfl ?_
  refine g_iconst hF (by decide +kernel : decode cX5_has 4 = .ok (.iconst 0, 1)) ?_
  refine g_iconst hF (by decide +kernel : decode cX5_has 5 = .ok (.iconst 0, 1)) ?_
  refine g_callV hF lkX5_49 (n1_X5_no X hX _ (by omega) (by omega) _ _ _ _) (by decide +kernel : decode cX5_has 6 = .ok (.invokevirtual 49, 3)) (by decide) rfl rfl rfl rfl jok51 (Nat.le_of_ble_eq_true rfl) (fun v6 m6 h6 => ?_)
  obtain ⟨rfl, e6⟩ := h6
  obtain rfl := e6.symm
  refine g_callV hF lkX5_53 (n_X5_fails X hX _ (by decide) _) (by decide +kernel : decode cX5_has 9 = .ok (.invokevirtual 53, 3)) (by decide) rfl rfl rfl rfl jok51 (Nat.le_of_ble_eq_true rfl) (fun v9 m9 h9 => ?_)
  obtain ⟨rfl, e9⟩ := h9
  obtain rfl := e9.symm
  refine g_if_ne hF (tgt := 30) (by decide +kernel : decode cX5_has 12 = .ok (.ifCond .ne 18, 3)) (by decide) (by omega) (fun c12 => ?_) (fun c12 => ?_)
  · skip
    refine g_iconst hF (by decide +kernel : decode cX5_has 30 = .ok (.iconst 0, 1)) ?_
    refine g_zreturn hF hQ (by decide +kernel : decode cX5_has 31 = .ok (.ireturn, 1)) (by first | exact Or.inl rfl | exact Or.inr rfl | omega) ?_
    exact ⟨rfl, rfl⟩
  · skip
    exact absurd c12 (by decide)
set_option maxHeartbeats 4000000 in
set_option maxRecDepth 100000 in
theorem n2_X5_has (X : jX) (hX : jxok X) (s : Nat) (hs : s < 8) (k : Int) (jk : jr k) (m : jM) (h : ¬ (num k)) : Con X yX5_has cX5_has 3 (some .boolean) 8 [vR 2 51, vI s, vI k] m (fun o m' => o = some (vI 0) ∧ m' = mset m 51 2 2) := by
  refine Con.of hX (by decide) (Nat.le_of_ble_eq_true rfl) (fun F hF hQ => ?_)
  refine g_aload_n hF (by decide +kernel : decode cX5_has 0 = .ok (.aload_n 0, 1)) rfl ?_
  refine g_aload_n hF (by decide +kernel : decode cX5_has 1 = .ok (.aload_n 0, 1)) rfl ?_
  refine g_iload_n hF (by decide +kernel : decode cX5_has 2 = .ok (.iload_n 1, 1)) rfl ?_
  refine g_iload_n hF (by decide +kernel : decode cX5_has 3 = .ok (.iload_n 2, 1)) rfl ?_
  refine g_iconst hF (by decide +kernel : decode cX5_has 4 = .ok (.iconst 0, 1)) ?_
  refine g_iconst hF (by decide +kernel : decode cX5_has 5 = .ok (.iconst 0, 1)) ?_
  refine g_callV hF lkX5_49 (n2_X5_no X hX _ (by omega) _ _ _ (by omega) (by omega) (by omega) (fun q => h q.1) _) (by decide +kernel : decode cX5_has 6 = .ok (.invokevirtual 49, 3)) (by decide) rfl rfl rfl rfl jok51 (Nat.le_of_ble_eq_true rfl) (fun v6 m6 h6 => ?_)
  obtain ⟨rfl, e6⟩ := h6
  obtain rfl := e6.symm
  refine g_callV hF lkX5_53 (n_X5_fails X hX _ (by decide) _) (by decide +kernel : decode cX5_has 9 = .ok (.invokevirtual 53, 3)) (by decide) rfl rfl rfl rfl jok51 (Nat.le_of_ble_eq_true rfl) (fun v9 m9 h9 => ?_)
  obtain ⟨rfl, e9⟩ := h9
  obtain rfl := e9.symm
  refine g_if_ne hF (tgt := 30) (by decide +kernel : decode cX5_has 12 = .ok (.ifCond .ne 18, 3)) (by decide) (by omega) (fun c12 => ?_) (fun c12 => ?_)
  · skip
    refine g_iconst hF (by decide +kernel : decode cX5_has 30 = .ok (.iconst 0, 1)) ?_
    refine g_zreturn hF hQ (by decide +kernel : decode cX5_has 31 = .ok (.ireturn, 1)) (by first | exact Or.inl rfl | exact Or.inr rfl | omega) ?_
    exact ⟨rfl, rfl⟩
  · skip
    exact absurd c12 (by decide)
set_option maxHeartbeats 4000000 in
set_option maxRecDepth 100000 in
theorem c_X5_hasValue (X : jX) (hX : jxok X) (s : Nat) (hs : s < 8) (v : Int) (hv : num v) (m : jM) (hI : MI m) : Con X yX5_hasValue cX5_hasValue 5 (some .boolean) 8 [vR 2 51, vI s, vI v] m (fun o m' => o = some (vI (if 0 < mult (mR m s) v then 1 else 0)) ∧ MSm m m' ∧ m' 51 2 = 0) := by
  refine Con.of hX (by decide) (Nat.le_of_ble_eq_true rfl) (fun F hF hQ => ?_)
  have hr := hI.1 s hs
  have hv2 : -1 ≤ v ∧ v ≤ 255 := hv
  refine g_aload_n hF (by decide +kernel : decode cX5_hasValue 0 = .ok (.aload_n 0, 1)) rfl ?_
  refine g_aload_n hF (by decide +kernel : decode cX5_hasValue 1 = .ok (.aload_n 0, 1)) rfl ?_
  refine g_iload_n hF (by decide +kernel : decode cX5_hasValue 2 = .ok (.iload_n 1, 1)) rfl ?_
  refine g_iload_n hF (by decide +kernel : decode cX5_hasValue 3 = .ok (.iload_n 2, 1)) rfl ?_
  refine g_iconst hF (by decide +kernel : decode cX5_hasValue 4 = .ok (.iconst 0, 1)) ?_
  refine g_iconst hF (by decide +kernel : decode cX5_hasValue 5 = .ok (.iconst 0, 1)) ?_
  refine g_callV hF lkX5_49 (y_X5_no X hX _ (by omega) _ _ _ (by omega) (by omega) (by omega) (by unfold num; omega) _) (by decide +kernel : decode cX5_hasValue 6 = .ok (.invokevirtual 49, 3)) (by decide) rfl rfl rfl rfl jok51 (Nat.le_of_ble_eq_true rfl) (fun v6 m6 h6 => ?_)
  obtain ⟨rfl, e6⟩ := h6
  obtain rfl := e6.symm
  refine g_callV hF lkX5_53 (y_X5_fails X hX _) (by decide +kernel : decode cX5_hasValue 9 = .ok (.invokevirtual 53, 3)) (by decide) rfl rfl rfl rfl jok51 (Nat.le_of_ble_eq_true rfl) (fun v9 m9 h9 => ?_)
  obtain ⟨rfl, e9⟩ := h9
  have S0 : MSm m m9 := by rw [e9]; exact MSm_code m (Or.inl rfl) 0
  have I0 := MI_S hI S0
  have z0 : m9 51 2 = 0 := by rw [e9, mset_at]
  have r0 : ∀ t : Nat, mR m9 t = mR m t := fun t => mR_52 (S0.1 52 (by decide) (by decide) (by decide)) t
  refine g_if_eq hF (tgt := 17) (by decide +kernel : decode cX5_hasValue 12 = .ok (.ifCond .eq 5, 3)) (by decide) (by omega) (fun c12 => ?_) (fun c12 => ?_)
  · skip
    refine g_iconst hF (by decide +kernel : decode cX5_hasValue 17 = .ok (.iconst 0, 1)) ?_
    refine g_istore_n hF (by decide +kernel : decode cX5_hasValue 18 = .ok (.istore_n 3, 1)) (by decide) ?_
    refine g_iconst hF (by decide +kernel : decode cX5_hasValue 19 = .ok (.iconst (-1), 1)) ?_
    refine g_istore hF (by decide +kernel : decode cX5_hasValue 20 = .ok (.istore 4, 2)) (by decide) ?_
    have loop : ∀ (n i : Nat) (a k : Int), i ≤ 257 → 258 ≤ i + n → k = i - 1 → a = bI (∃ z : Int, 0 ≤ z ∧ z < i ∧ mR m s z = v) → jG F X m9 22 [(0, vR 2 51), (1, vI s), (2, vI v), (3, vI a), (4, vI k)] [] := by
      intro n
      induction n with
      | zero => intro i a k h1 h2; exact absurd h2 (by omega)
      | succ n ih =>
        intro i a k h1 h2 hc0 hc1
        refine g_iload hF (by decide +kernel : decode cX5_hasValue 22 = .ok (.iload 4, 2)) rfl ?_
        refine g_sipush hF (by decide +kernel : decode cX5_hasValue 24 = .ok (.sipush 256, 3)) (by decide) ?_
        refine g_icmp_ge hF (tgt := 55) (by decide +kernel : decode cX5_hasValue 27 = .ok (.if_icmp .ge 28, 3)) (by decide) (by omega) (by omega) (fun c27 => ?_) (fun c27 => ?_)
        · skip
          refine g_iload_n hF (by decide +kernel : decode cX5_hasValue 55 = .ok (.iload_n 3, 1)) rfl ?_
          refine g_zreturn hF hQ (by decide +kernel : decode cX5_hasValue 56 = .ok (.ireturn, 1)) (by rw [hc1]; exact bI_c _) ?_
          exact ⟨by rw [hc1, show i = 257 by omega]; exact congrArg (fun x => some (vI x)) (bI_if mult_pos.symm), S0, z0⟩
        · skip
          refine g_iload_n hF (by decide +kernel : decode cX5_hasValue 30 = .ok (.iload_n 3, 1)) rfl ?_
          refine g_aload_n hF (by decide +kernel : decode cX5_hasValue 31 = .ok (.aload_n 0, 1)) rfl ?_
          refine g_iload_n hF (by decide +kernel : decode cX5_hasValue 32 = .ok (.iload_n 1, 1)) rfl ?_
          refine g_iload hF (by decide +kernel : decode cX5_hasValue 33 = .ok (.iload 4, 2)) rfl ?_
          refine g_callV hF lkX5_60 (c_X5_at X hX _ (by omega) _ (show num _ from ⟨by omega, by omega⟩) _) (by decide +kernel : decode cX5_hasValue 35 = .ok (.invokevirtual 60, 3)) (by decide) rfl rfl rfl rfl jok51 (Nat.le_of_ble_eq_true rfl) (fun v35 m35 h35 => ?_)
          obtain ⟨rfl, e35⟩ := h35
          obtain rfl := e35.symm
          rw [show mR m9 s (k + 1) = mR m s i by rw [r0, show k + 1 = (i : Int) by omega]]
          have b35 := hr i (by omega) (by omega)
          refine g_iload_n hF (by decide +kernel : decode cX5_hasValue 38 = .ok (.iload_n 2, 1)) rfl ?_
          refine g_icmp_ne hF (tgt := 46) (by decide +kernel : decode cX5_hasValue 39 = .ok (.if_icmp .ne 7, 3)) (by decide) (by omega) (by omega) (fun c39 => ?_) (fun c39 => ?_)
          · skip
            refine g_iconst hF (by decide +kernel : decode cX5_hasValue 46 = .ok (.iconst 0, 1)) ?_
            refine g_ior hF (by decide +kernel : decode cX5_hasValue 47 = .ok (.ior, 1)) ?_
            refine g_istore_n hF (by decide +kernel : decode cX5_hasValue 48 = .ok (.istore_n 3, 1)) (by decide) ?_
            refine g_iinc hF (by decide +kernel : decode cX5_hasValue 49 = .ok (.iinc 4 1, 3)) rfl (by decide) ?_
            refine g_goto hF (tgt := 22) (by decide +kernel : decode cX5_hasValue 52 = .ok (.goto (-30), 3)) (by decide) ?_
            exact ih (i + 1) _ _ (by omega) (by omega) (by omega) (by rw [hc1, or0]; exact (ex_n (P := fun z => mR m s z = v) c39).symm)
          · skip
            refine g_iconst hF (by decide +kernel : decode cX5_hasValue 42 = .ok (.iconst 1, 1)) ?_
            refine g_goto hF (tgt := 47) (by decide +kernel : decode cX5_hasValue 43 = .ok (.goto 4, 3)) (by decide) ?_
            refine g_ior hF (by decide +kernel : decode cX5_hasValue 47 = .ok (.ior, 1)) ?_
            refine g_istore_n hF (by decide +kernel : decode cX5_hasValue 48 = .ok (.istore_n 3, 1)) (by decide) ?_
            refine g_iinc hF (by decide +kernel : decode cX5_hasValue 49 = .ok (.iinc 4 1, 3)) rfl (by decide) ?_
            refine g_goto hF (tgt := 22) (by decide +kernel : decode cX5_hasValue 52 = .ok (.goto (-30), 3)) (by decide) ?_
            exact ih (i + 1) _ _ (by omega) (by omega) (by omega) (by rw [hc1, or1]; exact (ex_s (P := fun z => mR m s z = v) c39).symm)
    exact loop 258 0 0 (-1) (by omega) (by omega) (by omega) (bI_f (fun ⟨z, a, b, c⟩ => absurd b (by omega))).symm
  · skip
    exact absurd c12 (by decide)
set_option maxHeartbeats 4000000 in
set_option maxRecDepth 100000 in
theorem n1_X5_hasValue (X : jX) (hX : jxok X) (s : Int) (js : jr s) (v : Int) (jv : jr v) (m : jM) (h : ¬ (0 ≤ s ∧ s < 8)) : Con X yX5_hasValue cX5_hasValue 5 (some .boolean) 8 [vR 2 51, vI s, vI v] m (fun o m' => o = some (vI 0) ∧ m' = mset m 51 2 1) := by
  refine Con.of hX (by decide) (Nat.le_of_ble_eq_true rfl) (fun F hF hQ => ?_)
  refine g_aload_n hF (by decide +kernel : decode cX5_hasValue 0 = .ok (.aload_n 0, 1)) rfl ?_
  refine g_aload_n hF (by decide +kernel : decode cX5_hasValue 1 = .ok (.aload_n 0, 1)) rfl ?_
  refine g_iload_n hF (by decide +kernel : decode cX5_hasValue 2 = .ok (.iload_n 1, 1)) rfl ?_
  refine g_iload_n hF (by decide +kernel : decode cX5_hasValue 3 = .ok (.iload_n 2, 1)) rfl ?_
  refine g_iconst hF (by decide +kernel : decode cX5_hasValue 4 = .ok (.iconst 0, 1)) ?_
  refine g_iconst hF (by decide +kernel : decode cX5_hasValue 5 = .ok (.iconst 0, 1)) ?_
  refine g_callV hF lkX5_49 (n1_X5_no X hX _ (by omega) (by omega) _ _ _ _) (by decide +kernel : decode cX5_hasValue 6 = .ok (.invokevirtual 49, 3)) (by decide) rfl rfl rfl rfl jok51 (Nat.le_of_ble_eq_true rfl) (fun v6 m6 h6 => ?_)
  obtain ⟨rfl, e6⟩ := h6
  obtain rfl := e6.symm
  refine g_callV hF lkX5_53 (n_X5_fails X hX _ (by decide) _) (by decide +kernel : decode cX5_hasValue 9 = .ok (.invokevirtual 53, 3)) (by decide) rfl rfl rfl rfl jok51 (Nat.le_of_ble_eq_true rfl) (fun v9 m9 h9 => ?_)
  obtain ⟨rfl, e9⟩ := h9
  obtain rfl := e9.symm
  refine g_if_eq hF (tgt := 17) (by decide +kernel : decode cX5_hasValue 12 = .ok (.ifCond .eq 5, 3)) (by decide) (by omega) (fun c12 => ?_) (fun c12 => ?_)
  · skip
    exact absurd c12 (by decide)
  · skip
    refine g_iconst hF (by decide +kernel : decode cX5_hasValue 15 = .ok (.iconst 0, 1)) ?_
    refine g_zreturn hF hQ (by decide +kernel : decode cX5_hasValue 16 = .ok (.ireturn, 1)) (by first | exact Or.inl rfl | exact Or.inr rfl | omega) ?_
    exact ⟨rfl, rfl⟩
set_option maxHeartbeats 4000000 in
set_option maxRecDepth 100000 in
theorem n2_X5_hasValue (X : jX) (hX : jxok X) (s : Nat) (hs : s < 8) (v : Int) (jv : jr v) (m : jM) (h : ¬ (num v)) : Con X yX5_hasValue cX5_hasValue 5 (some .boolean) 8 [vR 2 51, vI s, vI v] m (fun o m' => o = some (vI 0) ∧ m' = mset m 51 2 2) := by
  refine Con.of hX (by decide) (Nat.le_of_ble_eq_true rfl) (fun F hF hQ => ?_)
  refine g_aload_n hF (by decide +kernel : decode cX5_hasValue 0 = .ok (.aload_n 0, 1)) rfl ?_
  refine g_aload_n hF (by decide +kernel : decode cX5_hasValue 1 = .ok (.aload_n 0, 1)) rfl ?_
  refine g_iload_n hF (by decide +kernel : decode cX5_hasValue 2 = .ok (.iload_n 1, 1)) rfl ?_
  refine g_iload_n hF (by decide +kernel : decode cX5_hasValue 3 = .ok (.iload_n 2, 1)) rfl ?_
  refine g_iconst hF (by decide +kernel : decode cX5_hasValue 4 = .ok (.iconst 0, 1)) ?_
  refine g_iconst hF (by decide +kernel : decode cX5_hasValue 5 = .ok (.iconst 0, 1)) ?_
  refine g_callV hF lkX5_49 (n2_X5_no X hX _ (by omega) _ _ _ (by omega) (by omega) (by omega) (fun q => h q.1) _) (by decide +kernel : decode cX5_hasValue 6 = .ok (.invokevirtual 49, 3)) (by decide) rfl rfl rfl rfl jok51 (Nat.le_of_ble_eq_true rfl) (fun v6 m6 h6 => ?_)
  obtain ⟨rfl, e6⟩ := h6
  obtain rfl := e6.symm
  refine g_callV hF lkX5_53 (n_X5_fails X hX _ (by decide) _) (by decide +kernel : decode cX5_hasValue 9 = .ok (.invokevirtual 53, 3)) (by decide) rfl rfl rfl rfl jok51 (Nat.le_of_ble_eq_true rfl) (fun v9 m9 h9 => ?_)
  obtain ⟨rfl, e9⟩ := h9
  obtain rfl := e9.symm
  refine g_if_eq hF (tgt := 17) (by decide +kernel : decode cX5_hasValue 12 = .ok (.ifCond .eq 5, 3)) (by decide) (by omega) (fun c12 => ?_) (fun c12 => ?_)
  · skip
    exact absurd c12 (by decide)
  · skip
    refine g_iconst hF (by decide +kernel : decode cX5_hasValue 15 = .ok (.iconst 0, 1)) ?_
    refine g_zreturn hF hQ (by decide +kernel : decode cX5_hasValue 16 = .ok (.ireturn, 1)) (by first | exact Or.inl rfl | exact Or.inr rfl | omega) ?_
    exact ⟨rfl, rfl⟩
set_option maxHeartbeats 4000000 in
set_option maxRecDepth 100000 in
theorem c_X5_size (X : jX) (hX : jxok X) (s : Nat) (hs : s < 8) (m : jM) (hI : MI m) : Con X yX5_size cX5_size 2 (some .int) 8 [vR 2 51, vI s] m (fun o m' => o = some (vI (cnt (mR m s))) ∧ MSm m m' ∧ m' 51 2 = 0) := by
  refine Con.of hX (by decide) (Nat.le_of_ble_eq_true rfl) (fun F hF hQ => ?_)
  have hr := hI.1 s hs
  refine g_aload_n hF (by decide +kernel : decode cX5_size 0 = .ok (.aload_n 0, 1)) rfl ?_
  refine g_iload_n hF (by decide +kernel : decode cX5_size 1 = .ok (.iload_n 1, 1)) rfl ?_
  refine g_callS hF lkX5_42 (y_X5_isSlot X hX _ (by omega) (by omega) _) (by decide +kernel : decode cX5_size 2 = .ok (.invokestatic 42, 3)) (by decide) rfl rfl (Nat.le_of_ble_eq_true rfl) (fun v2 m2 h2 => ?_)
  obtain ⟨rfl, e2⟩ := h2
  obtain rfl := e2.symm
  refine g_if_eq hF (tgt := 12) (by decide +kernel : decode cX5_size 5 = .ok (.ifCond .eq 7, 3)) (by decide) (by omega) (fun c5 => ?_) (fun c5 => ?_)
  · skip
    exact absurd c5 (by decide)
  · skip
    refine g_iconst hF (by decide +kernel : decode cX5_size 8 = .ok (.iconst 0, 1)) ?_
    refine g_goto hF (tgt := 13) (by decide +kernel : decode cX5_size 9 = .ok (.goto 4, 3)) (by decide) ?_
    refine g_callV hF lkX5_53 (y_X5_fails X hX _) (by decide +kernel : decode cX5_size 13 = .ok (.invokevirtual 53, 3)) (by decide) rfl rfl rfl rfl jok51 (Nat.le_of_ble_eq_true rfl) (fun v13 m13 h13 => ?_)
    obtain ⟨rfl, e13⟩ := h13
    have S0 : MSm m m13 := by rw [e13]; exact MSm_code m (Or.inl rfl) 0
    have I0 := MI_S hI S0
    have z0 : m13 51 2 = 0 := by rw [e13, mset_at]
    have r0 : ∀ t : Nat, mR m13 t = mR m t := fun t => mR_52 (S0.1 52 (by decide) (by decide) (by decide)) t
    refine g_if_eq hF (tgt := 23) (by decide +kernel : decode cX5_size 16 = .ok (.ifCond .eq 7, 3)) (by decide) (by omega) (fun c16 => ?_) (fun c16 => ?_)
    · skip
      have hm0 : rowok (mR m13 s) := by rw [r0]; exact hr
      refine g_aload_n hF (by decide +kernel : decode cX5_size 23 = .ok (.aload_n 0, 1)) rfl ?_
      refine g_iload_n hF (by decide +kernel : decode cX5_size 24 = .ok (.iload_n 1, 1)) rfl ?_
      refine g_callV hF lkX5_68 (c_X5_many X hX _ (by omega) _ (by assumption)) (by decide +kernel : decode cX5_size 25 = .ok (.invokevirtual 68, 3)) (by decide) rfl rfl rfl rfl jok51 (Nat.le_of_ble_eq_true rfl) (fun v25 m25 h25 => ?_)
      obtain ⟨rfl, e25⟩ := h25
      obtain rfl := e25.symm
      rw [r0]
      refine g_ireturn hF hQ (by decide +kernel : decode cX5_size 28 = .ok (.ireturn, 1)) ?_
      exact ⟨rfl, S0, z0⟩
    · skip
      exact absurd c16 (by decide)
set_option maxHeartbeats 4000000 in
set_option maxRecDepth 100000 in
theorem n1_X5_size (X : jX) (hX : jxok X) (s : Int) (js : jr s) (m : jM) (h : ¬ (0 ≤ s ∧ s < 8)) : Con X yX5_size cX5_size 2 (some .int) 8 [vR 2 51, vI s] m (fun o m' => o = some (vI 0) ∧ m' = mset m 51 2 1) := by
  refine Con.of hX (by decide) (Nat.le_of_ble_eq_true rfl) (fun F hF hQ => ?_)
  refine g_aload_n hF (by decide +kernel : decode cX5_size 0 = .ok (.aload_n 0, 1)) rfl ?_
  refine g_iload_n hF (by decide +kernel : decode cX5_size 1 = .ok (.iload_n 1, 1)) rfl ?_
  refine g_callS hF lkX5_42 (n_X5_isSlot X hX _ (by omega) (by omega) _) (by decide +kernel : decode cX5_size 2 = .ok (.invokestatic 42, 3)) (by decide) rfl rfl (Nat.le_of_ble_eq_true rfl) (fun v2 m2 h2 => ?_)
  obtain ⟨rfl, e2⟩ := h2
  obtain rfl := e2.symm
  refine g_if_eq hF (tgt := 12) (by decide +kernel : decode cX5_size 5 = .ok (.ifCond .eq 7, 3)) (by decide) (by omega) (fun c5 => ?_) (fun c5 => ?_)
  · skip
    refine g_iconst hF (by decide +kernel : decode cX5_size 12 = .ok (.iconst 1, 1)) ?_
    refine g_callV hF lkX5_53 (n_X5_fails X hX _ (by decide) _) (by decide +kernel : decode cX5_size 13 = .ok (.invokevirtual 53, 3)) (by decide) rfl rfl rfl rfl jok51 (Nat.le_of_ble_eq_true rfl) (fun v13 m13 h13 => ?_)
    obtain ⟨rfl, e13⟩ := h13
    obtain rfl := e13.symm
    refine g_if_eq hF (tgt := 23) (by decide +kernel : decode cX5_size 16 = .ok (.ifCond .eq 7, 3)) (by decide) (by omega) (fun c16 => ?_) (fun c16 => ?_)
    · skip
      exact absurd c16 (by decide)
    · skip
      refine g_iconst hF (by decide +kernel : decode cX5_size 19 = .ok (.iconst 0, 1)) ?_
      refine g_goto hF (tgt := 28) (by decide +kernel : decode cX5_size 20 = .ok (.goto 8, 3)) (by decide) ?_
      refine g_ireturn hF hQ (by decide +kernel : decode cX5_size 28 = .ok (.ireturn, 1)) ?_
      exact ⟨rfl, rfl⟩
  · skip
    exact absurd c5 (by decide)
set_option maxHeartbeats 4000000 in
set_option maxRecDepth 100000 in
theorem c_X5_kinds (X : jX) (hX : jxok X) (s : Nat) (hs : s < 8) (m : jM) (hI : MI m) : Con X yX5_kinds cX5_kinds 4 (some .int) 8 [vR 2 51, vI s] m (fun o m' => o = some (vI (kindsV (mR m s))) ∧ MSm m m' ∧ m' 51 2 = 0) := by
  refine Con.of hX (by decide) (Nat.le_of_ble_eq_true rfl) (fun F hF hQ => ?_)
  have hr := hI.1 s hs
  refine g_aload_n hF (by decide +kernel : decode cX5_kinds 0 = .ok (.aload_n 0, 1)) rfl ?_
  refine g_iload_n hF (by decide +kernel : decode cX5_kinds 1 = .ok (.iload_n 1, 1)) rfl ?_
  refine g_callS hF lkX5_42 (y_X5_isSlot X hX _ (by omega) (by omega) _) (by decide +kernel : decode cX5_kinds 2 = .ok (.invokestatic 42, 3)) (by decide) rfl rfl (Nat.le_of_ble_eq_true rfl) (fun v2 m2 h2 => ?_)
  obtain ⟨rfl, e2⟩ := h2
  obtain rfl := e2.symm
  refine g_if_eq hF (tgt := 12) (by decide +kernel : decode cX5_kinds 5 = .ok (.ifCond .eq 7, 3)) (by decide) (by omega) (fun c5 => ?_) (fun c5 => ?_)
  · skip
    exact absurd c5 (by decide)
  · skip
    refine g_iconst hF (by decide +kernel : decode cX5_kinds 8 = .ok (.iconst 0, 1)) ?_
    refine g_goto hF (tgt := 13) (by decide +kernel : decode cX5_kinds 9 = .ok (.goto 4, 3)) (by decide) ?_
    refine g_callV hF lkX5_53 (y_X5_fails X hX _) (by decide +kernel : decode cX5_kinds 13 = .ok (.invokevirtual 53, 3)) (by decide) rfl rfl rfl rfl jok51 (Nat.le_of_ble_eq_true rfl) (fun v13 m13 h13 => ?_)
    obtain ⟨rfl, e13⟩ := h13
    have S0 : MSm m m13 := by rw [e13]; exact MSm_code m (Or.inl rfl) 0
    have I0 := MI_S hI S0
    have z0 : m13 51 2 = 0 := by rw [e13, mset_at]
    have r0 : ∀ t : Nat, mR m13 t = mR m t := fun t => mR_52 (S0.1 52 (by decide) (by decide) (by decide)) t
    refine g_if_eq hF (tgt := 21) (by decide +kernel : decode cX5_kinds 16 = .ok (.ifCond .eq 5, 3)) (by decide) (by omega) (fun c16 => ?_) (fun c16 => ?_)
    · skip
      have hm0 : rowok (mR m13 s) := by rw [r0]; exact hr
      refine g_iconst hF (by decide +kernel : decode cX5_kinds 21 = .ok (.iconst 0, 1)) ?_
      refine g_istore_n hF (by decide +kernel : decode cX5_kinds 22 = .ok (.istore_n 2, 1)) (by decide) ?_
      refine g_iconst hF (by decide +kernel : decode cX5_kinds 23 = .ok (.iconst (-1), 1)) ?_
      refine g_istore_n hF (by decide +kernel : decode cX5_kinds 24 = .ok (.istore_n 3, 1)) (by decide) ?_
      have loop : ∀ (n i : Nat) (a k : Int), i ≤ 257 → 258 ≤ i + n → k = i - 1 → a = sumN (fun z => if 0 < mult (mR m s) (z - 1) then 1 else 0) i → jG F X m13 25 [(0, vR 2 51), (1, vI s), (2, vI a), (3, vI k)] [] := by
        intro n
        induction n with
        | zero => intro i a k h1 h2; exact absurd h2 (by omega)
        | succ n ih =>
          intro i a k h1 h2 hc0 hc1
          refine g_iload_n hF (by decide +kernel : decode cX5_kinds 25 = .ok (.iload_n 3, 1)) rfl ?_
          refine g_sipush hF (by decide +kernel : decode cX5_kinds 26 = .ok (.sipush 256, 3)) (by decide) ?_
          refine g_icmp_ge hF (tgt := 55) (by decide +kernel : decode cX5_kinds 29 = .ok (.if_icmp .ge 26, 3)) (by decide) (by omega) (by omega) (fun c29 => ?_) (fun c29 => ?_)
          · skip
            refine g_iload_n hF (by decide +kernel : decode cX5_kinds 55 = .ok (.iload_n 2, 1)) rfl ?_
            refine g_ireturn hF hQ (by decide +kernel : decode cX5_kinds 56 = .ok (.ireturn, 1)) ?_
            exact ⟨by rw [hc1, show i = 257 by omega]; rfl, S0, z0⟩
          · skip
            refine g_iload_n hF (by decide +kernel : decode cX5_kinds 32 = .ok (.iload_n 2, 1)) rfl ?_
            refine g_aload_n hF (by decide +kernel : decode cX5_kinds 33 = .ok (.aload_n 0, 1)) rfl ?_
            refine g_iload_n hF (by decide +kernel : decode cX5_kinds 34 = .ok (.iload_n 1, 1)) rfl ?_
            refine g_iload_n hF (by decide +kernel : decode cX5_kinds 35 = .ok (.iload_n 3, 1)) rfl ?_
            refine g_callV hF lkX5_72 (c_X5_manyWith X hX _ (by omega) _ (by omega) _ (by assumption)) (by decide +kernel : decode cX5_kinds 36 = .ok (.invokevirtual 72, 3)) (by decide) rfl rfl rfl rfl jok51 (Nat.le_of_ble_eq_true rfl) (fun v36 m36 h36 => ?_)
            obtain ⟨rfl, e36⟩ := h36
            obtain rfl := e36.symm
            rw [show mult (mR m13 s) k = mult (mR m s) ((i : Int) - 1) by rw [r0, show k = (i : Int) - 1 by omega]]
            have b36 : 0 ≤ mult (mR m s) ((i : Int) - 1) ∧ mult (mR m s) ((i : Int) - 1) ≤ 257 := mult_b (mR m s) ((i : Int) - 1) 257
            refine g_if_le hF (tgt := 46) (by decide +kernel : decode cX5_kinds 39 = .ok (.ifCond .le 7, 3)) (by decide) (by omega) (fun c39 => ?_) (fun c39 => ?_)
            · skip
              refine g_iconst hF (by decide +kernel : decode cX5_kinds 46 = .ok (.iconst 0, 1)) ?_
              refine g_iadd hF (by decide +kernel : decode cX5_kinds 47 = .ok (.iadd, 1)) ?_
              refine g_istore_n hF (by decide +kernel : decode cX5_kinds 48 = .ok (.istore_n 2, 1)) (by decide) ?_
              refine g_iinc hF (by decide +kernel : decode cX5_kinds 49 = .ok (.iinc 3 1, 3)) rfl (by decide) ?_
              refine g_goto hF (tgt := 25) (by decide +kernel : decode cX5_kinds 52 = .ok (.goto (-27), 3)) (by decide) ?_
              exact ih (i + 1) _ _ (by omega) (by omega) (by omega) (by rw [hc1, sumN_s, if_neg (by omega)])
            · skip
              refine g_iconst hF (by decide +kernel : decode cX5_kinds 42 = .ok (.iconst 1, 1)) ?_
              refine g_goto hF (tgt := 47) (by decide +kernel : decode cX5_kinds 43 = .ok (.goto 4, 3)) (by decide) ?_
              refine g_iadd hF (by decide +kernel : decode cX5_kinds 47 = .ok (.iadd, 1)) ?_
              refine g_istore_n hF (by decide +kernel : decode cX5_kinds 48 = .ok (.istore_n 2, 1)) (by decide) ?_
              refine g_iinc hF (by decide +kernel : decode cX5_kinds 49 = .ok (.iinc 3 1, 3)) rfl (by decide) ?_
              refine g_goto hF (tgt := 25) (by decide +kernel : decode cX5_kinds 52 = .ok (.goto (-27), 3)) (by decide) ?_
              exact ih (i + 1) _ _ (by omega) (by omega) (by omega) (by rw [hc1, sumN_s, if_pos (by omega)])
      exact loop 258 0 0 (-1) (by omega) (by omega) (by omega) (sumN_0 _).symm
    · skip
      exact absurd c16 (by decide)
set_option maxHeartbeats 4000000 in
set_option maxRecDepth 100000 in
theorem n1_X5_kinds (X : jX) (hX : jxok X) (s : Int) (js : jr s) (m : jM) (h : ¬ (0 ≤ s ∧ s < 8)) : Con X yX5_kinds cX5_kinds 4 (some .int) 8 [vR 2 51, vI s] m (fun o m' => o = some (vI 0) ∧ m' = mset m 51 2 1) := by
  refine Con.of hX (by decide) (Nat.le_of_ble_eq_true rfl) (fun F hF hQ => ?_)
  refine g_aload_n hF (by decide +kernel : decode cX5_kinds 0 = .ok (.aload_n 0, 1)) rfl ?_
  refine g_iload_n hF (by decide +kernel : decode cX5_kinds 1 = .ok (.iload_n 1, 1)) rfl ?_
  refine g_callS hF lkX5_42 (n_X5_isSlot X hX _ (by omega) (by omega) _) (by decide +kernel : decode cX5_kinds 2 = .ok (.invokestatic 42, 3)) (by decide) rfl rfl (Nat.le_of_ble_eq_true rfl) (fun v2 m2 h2 => ?_)
  obtain ⟨rfl, e2⟩ := h2
  obtain rfl := e2.symm
  refine g_if_eq hF (tgt := 12) (by decide +kernel : decode cX5_kinds 5 = .ok (.ifCond .eq 7, 3)) (by decide) (by omega) (fun c5 => ?_) (fun c5 => ?_)
  · skip
    refine g_iconst hF (by decide +kernel : decode cX5_kinds 12 = .ok (.iconst 1, 1)) ?_
    refine g_callV hF lkX5_53 (n_X5_fails X hX _ (by decide) _) (by decide +kernel : decode cX5_kinds 13 = .ok (.invokevirtual 53, 3)) (by decide) rfl rfl rfl rfl jok51 (Nat.le_of_ble_eq_true rfl) (fun v13 m13 h13 => ?_)
    obtain ⟨rfl, e13⟩ := h13
    obtain rfl := e13.symm
    refine g_if_eq hF (tgt := 21) (by decide +kernel : decode cX5_kinds 16 = .ok (.ifCond .eq 5, 3)) (by decide) (by omega) (fun c16 => ?_) (fun c16 => ?_)
    · skip
      exact absurd c16 (by decide)
    · skip
      refine g_iconst hF (by decide +kernel : decode cX5_kinds 19 = .ok (.iconst 0, 1)) ?_
      refine g_ireturn hF hQ (by decide +kernel : decode cX5_kinds 20 = .ok (.ireturn, 1)) ?_
      exact ⟨rfl, rfl⟩
  · skip
    exact absurd c5 (by decide)
set_option maxHeartbeats 4000000 in
set_option maxRecDepth 100000 in
theorem c_X5_keyAt (X : jX) (hX : jxok X) (s : Nat) (hs : s < 8) (p : Int) (m : jM) (hI : MI m) (hp : 0 ≤ p ∧ p < cnt (mR m s)) : Con X yX5_keyAt cX5_keyAt 5 (some .int) 8 [vR 2 51, vI s, vI p] m (fun o m' => o = some (vI (nthK (mR m s) p)) ∧ MSm m m' ∧ m' 51 2 = 0) := by
  refine Con.of hX (by decide) (Nat.le_of_ble_eq_true rfl) (fun F hF hQ => ?_)
  have hr := hI.1 s hs
  refine g_aload_n hF (by decide +kernel : decode cX5_keyAt 0 = .ok (.aload_n 0, 1)) rfl ?_
  refine g_iload_n hF (by decide +kernel : decode cX5_keyAt 1 = .ok (.iload_n 1, 1)) rfl ?_
  refine g_callS hF lkX5_42 (y_X5_isSlot X hX _ (by omega) (by omega) _) (by decide +kernel : decode cX5_keyAt 2 = .ok (.invokestatic 42, 3)) (by decide) rfl rfl (Nat.le_of_ble_eq_true rfl) (fun v2 m2 h2 => ?_)
  obtain ⟨rfl, e2⟩ := h2
  obtain rfl := e2.symm
  refine g_if_ne hF (tgt := 12) (by decide +kernel : decode cX5_keyAt 5 = .ok (.ifCond .ne 7, 3)) (by decide) (by omega) (fun c5 => ?_) (fun c5 => ?_)
  · skip
    refine g_iload_n hF (by decide +kernel : decode cX5_keyAt 12 = .ok (.iload_n 2, 1)) rfl ?_
    refine g_iconst hF (by decide +kernel : decode cX5_keyAt 13 = .ok (.iconst 0, 1)) ?_
    refine g_aload_n hF (by decide +kernel : decode cX5_keyAt 14 = .ok (.aload_n 0, 1)) rfl ?_
    refine g_iload_n hF (by decide +kernel : decode cX5_keyAt 15 = .ok (.iload_n 1, 1)) rfl ?_
    refine g_callV hF lkX5_68 (c_X5_many X hX _ (by omega) _ (by assumption)) (by decide +kernel : decode cX5_keyAt 16 = .ok (.invokevirtual 68, 3)) (by decide) rfl rfl rfl rfl jok51 (Nat.le_of_ble_eq_true rfl) (fun v16 m16 h16 => ?_)
    obtain ⟨rfl, e16⟩ := h16
    obtain rfl := e16.symm
    have hcb := cnt_b (mR m s)
    refine g_iconst hF (by decide +kernel : decode cX5_keyAt 19 = .ok (.iconst 1, 1)) ?_
    refine g_isub hF (by decide +kernel : decode cX5_keyAt 20 = .ok (.isub, 1)) ?_
    refine g_callS hF lkX5_35 (y_X5_in X hX _ _ _ (by omega) (by omega) (by omega) (by omega) _) (by decide +kernel : decode cX5_keyAt 21 = .ok (.invokestatic 35, 3)) (by decide) rfl rfl (Nat.le_of_ble_eq_true rfl) (fun v21 m21 h21 => ?_)
    obtain ⟨rfl, e21⟩ := h21
    obtain rfl := e21.symm
    refine g_if_eq hF (tgt := 31) (by decide +kernel : decode cX5_keyAt 24 = .ok (.ifCond .eq 7, 3)) (by decide) (by omega) (fun c24 => ?_) (fun c24 => ?_)
    · skip
      exact absurd c24 (by decide)
    · skip
      refine g_iconst hF (by decide +kernel : decode cX5_keyAt 27 = .ok (.iconst 0, 1)) ?_
      refine g_goto hF (tgt := 32) (by decide +kernel : decode cX5_keyAt 28 = .ok (.goto 4, 3)) (by decide) ?_
      refine g_callV hF lkX5_53 (y_X5_fails X hX _) (by decide +kernel : decode cX5_keyAt 32 = .ok (.invokevirtual 53, 3)) (by decide) rfl rfl rfl rfl jok51 (Nat.le_of_ble_eq_true rfl) (fun v32 m32 h32 => ?_)
      obtain ⟨rfl, e32⟩ := h32
      have S0 : MSm m m32 := by rw [e32]; exact MSm_code m (Or.inl rfl) 0
      have I0 := MI_S hI S0
      have z0 : m32 51 2 = 0 := by rw [e32, mset_at]
      have r0 : ∀ t : Nat, mR m32 t = mR m t := fun t => mR_52 (S0.1 52 (by decide) (by decide) (by decide)) t
      refine g_if_eq hF (tgt := 40) (by decide +kernel : decode cX5_keyAt 35 = .ok (.ifCond .eq 5, 3)) (by decide) (by omega) (fun c35 => ?_) (fun c35 => ?_)
      · skip
        refine g_iload_n hF (by decide +kernel : decode cX5_keyAt 40 = .ok (.iload_n 2, 1)) rfl ?_
        refine g_istore_n hF (by decide +kernel : decode cX5_keyAt 41 = .ok (.istore_n 3, 1)) (by decide) ?_
        refine g_iconst hF (by decide +kernel : decode cX5_keyAt 42 = .ok (.iconst (-1), 1)) ?_
        refine g_istore hF (by decide +kernel : decode cX5_keyAt 43 = .ok (.istore 4, 2)) (by decide) ?_
        have loop : ∀ (n i : Nat) (a k : Int), i ≤ 257 → 258 ≤ i + n → k = i - 1 → a = p - sumN (fun z => pres (mR m s z)) i → 0 ≤ a → jG F X m32 45 [(0, vR 2 51), (1, vI s), (2, vI p), (3, vI a), (4, vI k)] [] := by
          intro n
          induction n with
          | zero => intro i a k h1 h2; exact absurd h2 (by omega)
          | succ n ih =>
            intro i a k h1 h2 hk ha ha0
            have hsb := sumN_bound (f := fun z => pres (mR m s z)) (a := 0) (b := 1) i (fun z _ _ => pres_b _)
            have h256 : i < 257 := by
              rcases Nat.lt_or_ge i 257 with q | q
              · exact q
              · obtain rfl : i = 257 := by omega
                have h9 : cnt (mR m s) = sumN (fun z => pres (mR m s z)) 257 := rfl
                omega
            refine g_aload_n hF (by decide +kernel : decode cX5_keyAt 45 = .ok (.aload_n 0, 1)) rfl ?_
            refine g_iload_n hF (by decide +kernel : decode cX5_keyAt 46 = .ok (.iload_n 1, 1)) rfl ?_
            refine g_iload hF (by decide +kernel : decode cX5_keyAt 47 = .ok (.iload 4, 2)) rfl ?_
            refine g_callV hF lkX5_60 (c_X5_at X hX _ (by omega) _ (show num _ from ⟨by omega, by omega⟩) _) (by decide +kernel : decode cX5_keyAt 49 = .ok (.invokevirtual 60, 3)) (by decide) rfl rfl rfl rfl jok51 (Nat.le_of_ble_eq_true rfl) (fun v49 m49 h49 => ?_)
            obtain ⟨rfl, e49⟩ := h49
            obtain rfl := e49.symm
            rw [show mR m32 s (k + 1) = mR m s i by rw [r0, show k + 1 = (i : Int) by omega]]
            have b49 := hr i (by omega) (by omega)
            refine g_bipush hF (by decide +kernel : decode cX5_keyAt 52 = .ok (.bipush (-2), 2)) (by decide) ?_
            refine g_icmp_eq hF (tgt := 61) (by decide +kernel : decode cX5_keyAt 54 = .ok (.if_icmp .eq 7, 3)) (by decide) (by omega) (by omega) (fun c54 => ?_) (fun c54 => ?_)
            · skip
              refine g_iload_n hF (by decide +kernel : decode cX5_keyAt 61 = .ok (.iload_n 3, 1)) rfl ?_
              refine g_aload_n hF (by decide +kernel : decode cX5_keyAt 62 = .ok (.aload_n 0, 1)) rfl ?_
              refine g_iload_n hF (by decide +kernel : decode cX5_keyAt 63 = .ok (.iload_n 1, 1)) rfl ?_
              refine g_iload hF (by decide +kernel : decode cX5_keyAt 64 = .ok (.iload 4, 2)) rfl ?_
              refine g_callV hF lkX5_60 (c_X5_at X hX _ (by omega) _ (show num _ from ⟨by omega, by omega⟩) _) (by decide +kernel : decode cX5_keyAt 66 = .ok (.invokevirtual 60, 3)) (by decide) rfl rfl rfl rfl jok51 (Nat.le_of_ble_eq_true rfl) (fun v66 m66 h66 => ?_)
              obtain ⟨rfl, e66⟩ := h66
              obtain rfl := e66.symm
              rw [show mR m32 s (k + 1) = mR m s i by rw [r0, show k + 1 = (i : Int) by omega]]
              have b66 := hr i (by omega) (by omega)
              refine g_bipush hF (by decide +kernel : decode cX5_keyAt 69 = .ok (.bipush (-2), 2)) (by decide) ?_
              refine g_icmp_ne hF (tgt := 78) (by decide +kernel : decode cX5_keyAt 71 = .ok (.if_icmp .ne 7, 3)) (by decide) (by omega) (by omega) (fun c71 => ?_) (fun c71 => ?_)
              · skip
                refine g_iconst hF (by decide +kernel : decode cX5_keyAt 78 = .ok (.iconst 1, 1)) ?_
                refine g_isub hF (by decide +kernel : decode cX5_keyAt 79 = .ok (.isub, 1)) ?_
                refine g_istore_n hF (by decide +kernel : decode cX5_keyAt 80 = .ok (.istore_n 3, 1)) (by decide) ?_
                refine g_iinc hF (by decide +kernel : decode cX5_keyAt 81 = .ok (.iinc 4 1, 3)) rfl (by decide) ?_
                refine g_goto hF (tgt := 45) (by decide +kernel : decode cX5_keyAt 84 = .ok (.goto (-39), 3)) (by decide) ?_
                exact absurd c54 c71
              · skip
                refine g_iconst hF (by decide +kernel : decode cX5_keyAt 74 = .ok (.iconst 0, 1)) ?_
                refine g_goto hF (tgt := 79) (by decide +kernel : decode cX5_keyAt 75 = .ok (.goto 4, 3)) (by decide) ?_
                refine g_isub hF (by decide +kernel : decode cX5_keyAt 79 = .ok (.isub, 1)) ?_
                refine g_istore_n hF (by decide +kernel : decode cX5_keyAt 80 = .ok (.istore_n 3, 1)) (by decide) ?_
                refine g_iinc hF (by decide +kernel : decode cX5_keyAt 81 = .ok (.iinc 4 1, 3)) rfl (by decide) ?_
                refine g_goto hF (tgt := 45) (by decide +kernel : decode cX5_keyAt 84 = .ok (.goto (-39), 3)) (by decide) ?_
                exact ih (i + 1) _ _ (by omega) (by omega) (by omega) (by rw [ha, sumN_s, show pres (mR m s i) = 0 from if_pos c54]; omega) (by omega)
            · skip
              refine g_iload_n hF (by decide +kernel : decode cX5_keyAt 57 = .ok (.iload_n 3, 1)) rfl ?_
              refine g_if_le hF (tgt := 87) (by decide +kernel : decode cX5_keyAt 58 = .ok (.ifCond .le 29, 3)) (by decide) (by omega) (fun c58 => ?_) (fun c58 => ?_)
              · skip
                refine g_iload hF (by decide +kernel : decode cX5_keyAt 87 = .ok (.iload 4, 2)) rfl ?_
                refine g_ireturn hF hQ (by decide +kernel : decode cX5_keyAt 89 = .ok (.ireturn, 1)) ?_
                exact ⟨by rw [nthK_eq (i := i) h256 c54 (by omega), hk], S0, z0⟩
              · skip
                refine g_iload_n hF (by decide +kernel : decode cX5_keyAt 61 = .ok (.iload_n 3, 1)) rfl ?_
                refine g_aload_n hF (by decide +kernel : decode cX5_keyAt 62 = .ok (.aload_n 0, 1)) rfl ?_
                refine g_iload_n hF (by decide +kernel : decode cX5_keyAt 63 = .ok (.iload_n 1, 1)) rfl ?_
                refine g_iload hF (by decide +kernel : decode cX5_keyAt 64 = .ok (.iload 4, 2)) rfl ?_
                refine g_callV hF lkX5_60 (c_X5_at X hX _ (by omega) _ (show num _ from ⟨by omega, by omega⟩) _) (by decide +kernel : decode cX5_keyAt 66 = .ok (.invokevirtual 60, 3)) (by decide) rfl rfl rfl rfl jok51 (Nat.le_of_ble_eq_true rfl) (fun v66 m66 h66 => ?_)
                obtain ⟨rfl, e66⟩ := h66
                obtain rfl := e66.symm
                rw [show mR m32 s (k + 1) = mR m s i by rw [r0, show k + 1 = (i : Int) by omega]]
                have b66 := hr i (by omega) (by omega)
                refine g_bipush hF (by decide +kernel : decode cX5_keyAt 69 = .ok (.bipush (-2), 2)) (by decide) ?_
                refine g_icmp_ne hF (tgt := 78) (by decide +kernel : decode cX5_keyAt 71 = .ok (.if_icmp .ne 7, 3)) (by decide) (by omega) (by omega) (fun c71 => ?_) (fun c71 => ?_)
                · skip
                  refine g_iconst hF (by decide +kernel : decode cX5_keyAt 78 = .ok (.iconst 1, 1)) ?_
                  refine g_isub hF (by decide +kernel : decode cX5_keyAt 79 = .ok (.isub, 1)) ?_
                  refine g_istore_n hF (by decide +kernel : decode cX5_keyAt 80 = .ok (.istore_n 3, 1)) (by decide) ?_
                  refine g_iinc hF (by decide +kernel : decode cX5_keyAt 81 = .ok (.iinc 4 1, 3)) rfl (by decide) ?_
                  refine g_goto hF (tgt := 45) (by decide +kernel : decode cX5_keyAt 84 = .ok (.goto (-39), 3)) (by decide) ?_
                  exact ih (i + 1) _ _ (by omega) (by omega) (by omega) (by rw [ha, sumN_s, show pres (mR m s i) = 1 from if_neg c54]; omega) (by omega)
                · skip
                  refine g_iconst hF (by decide +kernel : decode cX5_keyAt 74 = .ok (.iconst 0, 1)) ?_
                  refine g_goto hF (tgt := 79) (by decide +kernel : decode cX5_keyAt 75 = .ok (.goto 4, 3)) (by decide) ?_
                  refine g_isub hF (by decide +kernel : decode cX5_keyAt 79 = .ok (.isub, 1)) ?_
                  refine g_istore_n hF (by decide +kernel : decode cX5_keyAt 80 = .ok (.istore_n 3, 1)) (by decide) ?_
                  refine g_iinc hF (by decide +kernel : decode cX5_keyAt 81 = .ok (.iinc 4 1, 3)) rfl (by decide) ?_
                  refine g_goto hF (tgt := 45) (by decide +kernel : decode cX5_keyAt 84 = .ok (.goto (-39), 3)) (by decide) ?_
                  exact absurd c71 c54
        exact loop 258 0 p (-1) (by omega) (by omega) (by omega) (by rw [sumN_0]; omega) hp.1
      · skip
        exact absurd c35 (by decide)
  · skip
    exact absurd c5 (by decide)
set_option maxHeartbeats 4000000 in
set_option maxRecDepth 100000 in
theorem n1_X5_keyAt (X : jX) (hX : jxok X) (s : Int) (js : jr s) (p : Int) (jp : jr p) (m : jM) (h : ¬ (0 ≤ s ∧ s < 8)) : Con X yX5_keyAt cX5_keyAt 5 (some .int) 8 [vR 2 51, vI s, vI p] m (fun o m' => o = some (vI 0) ∧ m' = mset m 51 2 1) := by
  refine Con.of hX (by decide) (Nat.le_of_ble_eq_true rfl) (fun F hF hQ => ?_)
  refine g_aload_n hF (by decide +kernel : decode cX5_keyAt 0 = .ok (.aload_n 0, 1)) rfl ?_
  refine g_iload_n hF (by decide +kernel : decode cX5_keyAt 1 = .ok (.iload_n 1, 1)) rfl ?_
  refine g_callS hF lkX5_42 (n_X5_isSlot X hX _ (by omega) (by omega) _) (by decide +kernel : decode cX5_keyAt 2 = .ok (.invokestatic 42, 3)) (by decide) rfl rfl (Nat.le_of_ble_eq_true rfl) (fun v2 m2 h2 => ?_)
  obtain ⟨rfl, e2⟩ := h2
  obtain rfl := e2.symm
  refine g_if_ne hF (tgt := 12) (by decide +kernel : decode cX5_keyAt 5 = .ok (.ifCond .ne 7, 3)) (by decide) (by omega) (fun c5 => ?_) (fun c5 => ?_)
  · skip
    exact absurd c5 (by decide)
  · skip
    refine g_iconst hF (by decide +kernel : decode cX5_keyAt 8 = .ok (.iconst 1, 1)) ?_
    refine g_goto hF (tgt := 32) (by decide +kernel : decode cX5_keyAt 9 = .ok (.goto 23, 3)) (by decide) ?_
    refine g_callV hF lkX5_53 (n_X5_fails X hX _ (by decide) _) (by decide +kernel : decode cX5_keyAt 32 = .ok (.invokevirtual 53, 3)) (by decide) rfl rfl rfl rfl jok51 (Nat.le_of_ble_eq_true rfl) (fun v32 m32 h32 => ?_)
    obtain ⟨rfl, e32⟩ := h32
    obtain rfl := e32.symm
    refine g_if_eq hF (tgt := 40) (by decide +kernel : decode cX5_keyAt 35 = .ok (.ifCond .eq 5, 3)) (by decide) (by omega) (fun c35 => ?_) (fun c35 => ?_)
    · skip
      exact absurd c35 (by decide)
    · skip
      refine g_iconst hF (by decide +kernel : decode cX5_keyAt 38 = .ok (.iconst 0, 1)) ?_
      refine g_ireturn hF hQ (by decide +kernel : decode cX5_keyAt 39 = .ok (.ireturn, 1)) ?_
      exact ⟨rfl, rfl⟩
set_option maxHeartbeats 4000000 in
set_option maxRecDepth 100000 in
theorem n2_X5_keyAt (X : jX) (hX : jxok X) (s : Nat) (hs : s < 8) (p : Int) (jp : jr p) (m : jM) (hI : MI m) (h : ¬ (0 ≤ p ∧ p < cnt (mR m s))) : Con X yX5_keyAt cX5_keyAt 5 (some .int) 8 [vR 2 51, vI s, vI p] m (fun o m' => o = some (vI 0) ∧ m' = mset m 51 2 2) := by
  refine Con.of hX (by decide) (Nat.le_of_ble_eq_true rfl) (fun F hF hQ => ?_)
  have hr := hI.1 s hs
  refine g_aload_n hF (by decide +kernel : decode cX5_keyAt 0 = .ok (.aload_n 0, 1)) rfl ?_
  refine g_iload_n hF (by decide +kernel : decode cX5_keyAt 1 = .ok (.iload_n 1, 1)) rfl ?_
  refine g_callS hF lkX5_42 (y_X5_isSlot X hX _ (by omega) (by omega) _) (by decide +kernel : decode cX5_keyAt 2 = .ok (.invokestatic 42, 3)) (by decide) rfl rfl (Nat.le_of_ble_eq_true rfl) (fun v2 m2 h2 => ?_)
  obtain ⟨rfl, e2⟩ := h2
  obtain rfl := e2.symm
  refine g_if_ne hF (tgt := 12) (by decide +kernel : decode cX5_keyAt 5 = .ok (.ifCond .ne 7, 3)) (by decide) (by omega) (fun c5 => ?_) (fun c5 => ?_)
  · skip
    refine g_iload_n hF (by decide +kernel : decode cX5_keyAt 12 = .ok (.iload_n 2, 1)) rfl ?_
    refine g_iconst hF (by decide +kernel : decode cX5_keyAt 13 = .ok (.iconst 0, 1)) ?_
    refine g_aload_n hF (by decide +kernel : decode cX5_keyAt 14 = .ok (.aload_n 0, 1)) rfl ?_
    refine g_iload_n hF (by decide +kernel : decode cX5_keyAt 15 = .ok (.iload_n 1, 1)) rfl ?_
    refine g_callV hF lkX5_68 (c_X5_many X hX _ (by omega) _ (by assumption)) (by decide +kernel : decode cX5_keyAt 16 = .ok (.invokevirtual 68, 3)) (by decide) rfl rfl rfl rfl jok51 (Nat.le_of_ble_eq_true rfl) (fun v16 m16 h16 => ?_)
    obtain ⟨rfl, e16⟩ := h16
    obtain rfl := e16.symm
    have hcb := cnt_b (mR m s)
    refine g_iconst hF (by decide +kernel : decode cX5_keyAt 19 = .ok (.iconst 1, 1)) ?_
    refine g_isub hF (by decide +kernel : decode cX5_keyAt 20 = .ok (.isub, 1)) ?_
    refine g_callS hF lkX5_35 (n_X5_in X hX _ _ _ (by omega) (by omega) (by omega) (by omega) _) (by decide +kernel : decode cX5_keyAt 21 = .ok (.invokestatic 35, 3)) (by decide) rfl rfl (Nat.le_of_ble_eq_true rfl) (fun v21 m21 h21 => ?_)
    obtain ⟨rfl, e21⟩ := h21
    obtain rfl := e21.symm
    refine g_if_eq hF (tgt := 31) (by decide +kernel : decode cX5_keyAt 24 = .ok (.ifCond .eq 7, 3)) (by decide) (by omega) (fun c24 => ?_) (fun c24 => ?_)
    · skip
      refine g_iconst hF (by decide +kernel : decode cX5_keyAt 31 = .ok (.iconst 2, 1)) ?_
      refine g_callV hF lkX5_53 (n_X5_fails X hX _ (by decide) _) (by decide +kernel : decode cX5_keyAt 32 = .ok (.invokevirtual 53, 3)) (by decide) rfl rfl rfl rfl jok51 (Nat.le_of_ble_eq_true rfl) (fun v32 m32 h32 => ?_)
      obtain ⟨rfl, e32⟩ := h32
      obtain rfl := e32.symm
      refine g_if_eq hF (tgt := 40) (by decide +kernel : decode cX5_keyAt 35 = .ok (.ifCond .eq 5, 3)) (by decide) (by omega) (fun c35 => ?_) (fun c35 => ?_)
      · skip
        exact absurd c35 (by decide)
      · skip
        refine g_iconst hF (by decide +kernel : decode cX5_keyAt 38 = .ok (.iconst 0, 1)) ?_
        refine g_ireturn hF hQ (by decide +kernel : decode cX5_keyAt 39 = .ok (.ireturn, 1)) ?_
        exact ⟨rfl, rfl⟩
    · skip
      exact absurd c24 (by decide)
  · skip
    exact absurd c5 (by decide)
set_option maxHeartbeats 4000000 in
set_option maxRecDepth 100000 in
theorem c_X5_isSame (X : jX) (hX : jxok X) (s : Nat) (hs : s < 8) (u : Nat) (hu : u < 8) (m : jM) (hI : MI m) : Con X yX5_isSame cX5_isSame 5 (some .boolean) 8 [vR 2 51, vI s, vI u] m (fun o m' => o = some (vI (bI (eqR (mR m s) (mR m u)))) ∧ MSm m m' ∧ m' 51 2 = 0) := by
  refine Con.of hX (by decide) (Nat.le_of_ble_eq_true rfl) (fun F hF hQ => ?_)
  have hr := hI.1 s hs
  have hr2 := hI.1 u hu
  refine g_aload_n hF (by decide +kernel : decode cX5_isSame 0 = .ok (.aload_n 0, 1)) rfl ?_
  refine g_iload_n hF (by decide +kernel : decode cX5_isSame 1 = .ok (.iload_n 1, 1)) rfl ?_
  refine g_callS hF lkX5_42 (y_X5_isSlot X hX _ (by omega) (by omega) _) (by decide +kernel : decode cX5_isSame 2 = .ok (.invokestatic 42, 3)) (by decide) rfl rfl (Nat.le_of_ble_eq_true rfl) (fun v2 m2 h2 => ?_)
  obtain ⟨rfl, e2⟩ := h2
  obtain rfl := e2.symm
  refine g_if_eq hF (tgt := 19) (by decide +kernel : decode cX5_isSame 5 = .ok (.ifCond .eq 14, 3)) (by decide) (by omega) (fun c5 => ?_) (fun c5 => ?_)
  · skip
    exact absurd c5 (by decide)
  · skip
    refine g_iload_n hF (by decide +kernel : decode cX5_isSame 8 = .ok (.iload_n 2, 1)) rfl ?_
    refine g_callS hF lkX5_42 (y_X5_isSlot X hX _ (by omega) (by omega) _) (by decide +kernel : decode cX5_isSame 9 = .ok (.invokestatic 42, 3)) (by decide) rfl rfl (Nat.le_of_ble_eq_true rfl) (fun v9 m9 h9 => ?_)
    obtain ⟨rfl, e9⟩ := h9
    obtain rfl := e9.symm
    refine g_if_eq hF (tgt := 19) (by decide +kernel : decode cX5_isSame 12 = .ok (.ifCond .eq 7, 3)) (by decide) (by omega) (fun c12 => ?_) (fun c12 => ?_)
    · skip
      exact absurd c12 (by decide)
    · skip
      refine g_iconst hF (by decide +kernel : decode cX5_isSame 15 = .ok (.iconst 0, 1)) ?_
      refine g_goto hF (tgt := 20) (by decide +kernel : decode cX5_isSame 16 = .ok (.goto 4, 3)) (by decide) ?_
      refine g_callV hF lkX5_53 (y_X5_fails X hX _) (by decide +kernel : decode cX5_isSame 20 = .ok (.invokevirtual 53, 3)) (by decide) rfl rfl rfl rfl jok51 (Nat.le_of_ble_eq_true rfl) (fun v20 m20 h20 => ?_)
      obtain ⟨rfl, e20⟩ := h20
      have S0 : MSm m m20 := by rw [e20]; exact MSm_code m (Or.inl rfl) 0
      have I0 := MI_S hI S0
      have z0 : m20 51 2 = 0 := by rw [e20, mset_at]
      have r0 : ∀ t : Nat, mR m20 t = mR m t := fun t => mR_52 (S0.1 52 (by decide) (by decide) (by decide)) t
      refine g_if_eq hF (tgt := 28) (by decide +kernel : decode cX5_isSame 23 = .ok (.ifCond .eq 5, 3)) (by decide) (by omega) (fun c23 => ?_) (fun c23 => ?_)
      · skip
        refine g_iconst hF (by decide +kernel : decode cX5_isSame 28 = .ok (.iconst 1, 1)) ?_
        refine g_istore_n hF (by decide +kernel : decode cX5_isSame 29 = .ok (.istore_n 3, 1)) (by decide) ?_
        refine g_iconst hF (by decide +kernel : decode cX5_isSame 30 = .ok (.iconst (-1), 1)) ?_
        refine g_istore hF (by decide +kernel : decode cX5_isSame 31 = .ok (.istore 4, 2)) (by decide) ?_
        have loop : ∀ (n i : Nat) (a k : Int), i ≤ 257 → 258 ≤ i + n → k = i - 1 → a = bI (∀ z : Int, 0 ≤ z → z < i → (fun z => mR m s z = mR m u z) z) → jG F X m20 33 [(0, vR 2 51), (1, vI s), (2, vI u), (3, vI a), (4, vI k)] [] := by
          intro n
          induction n with
          | zero => intro i a k h1 h2; exact absurd h2 (by omega)
          | succ n ih =>
            intro i a k h1 h2 hc0 hc1
            refine g_iload hF (by decide +kernel : decode cX5_isSame 33 = .ok (.iload 4, 2)) rfl ?_
            refine g_sipush hF (by decide +kernel : decode cX5_isSame 35 = .ok (.sipush 256, 3)) (by decide) ?_
            refine g_icmp_ge hF (tgt := 72) (by decide +kernel : decode cX5_isSame 38 = .ok (.if_icmp .ge 34, 3)) (by decide) (by omega) (by omega) (fun c38 => ?_) (fun c38 => ?_)
            · skip
              refine g_iload_n hF (by decide +kernel : decode cX5_isSame 72 = .ok (.iload_n 3, 1)) rfl ?_
              refine g_zreturn hF hQ (by decide +kernel : decode cX5_isSame 73 = .ok (.ireturn, 1)) (by rw [hc1]; exact bI_c _) ?_
              exact ⟨by rw [hc1]; exact congrArg (fun x => some (vI x)) (bI_iff ⟨fun q z a b => q z a (by omega), fun q z a b => q z a (by omega)⟩), S0, z0⟩
            · skip
              refine g_iload_n hF (by decide +kernel : decode cX5_isSame 41 = .ok (.iload_n 3, 1)) rfl ?_
              refine g_aload_n hF (by decide +kernel : decode cX5_isSame 42 = .ok (.aload_n 0, 1)) rfl ?_
              refine g_iload_n hF (by decide +kernel : decode cX5_isSame 43 = .ok (.iload_n 1, 1)) rfl ?_
              refine g_iload hF (by decide +kernel : decode cX5_isSame 44 = .ok (.iload 4, 2)) rfl ?_
              refine g_callV hF lkX5_60 (c_X5_at X hX _ (by omega) _ (show num _ from ⟨by omega, by omega⟩) _) (by decide +kernel : decode cX5_isSame 46 = .ok (.invokevirtual 60, 3)) (by decide) rfl rfl rfl rfl jok51 (Nat.le_of_ble_eq_true rfl) (fun v46 m46 h46 => ?_)
              obtain ⟨rfl, e46⟩ := h46
              obtain rfl := e46.symm
              rw [show mR m20 s (k + 1) = mR m s i by rw [r0, show k + 1 = (i : Int) by omega]]
              have b46 := hr i (by omega) (by omega)
              refine g_aload_n hF (by decide +kernel : decode cX5_isSame 49 = .ok (.aload_n 0, 1)) rfl ?_
              refine g_iload_n hF (by decide +kernel : decode cX5_isSame 50 = .ok (.iload_n 2, 1)) rfl ?_
              refine g_iload hF (by decide +kernel : decode cX5_isSame 51 = .ok (.iload 4, 2)) rfl ?_
              refine g_callV hF lkX5_60 (c_X5_at X hX _ (by omega) _ (show num _ from ⟨by omega, by omega⟩) _) (by decide +kernel : decode cX5_isSame 53 = .ok (.invokevirtual 60, 3)) (by decide) rfl rfl rfl rfl jok51 (Nat.le_of_ble_eq_true rfl) (fun v53 m53 h53 => ?_)
              obtain ⟨rfl, e53⟩ := h53
              obtain rfl := e53.symm
              rw [show mR m20 u (k + 1) = mR m u i by rw [r0, show k + 1 = (i : Int) by omega]]
              have b53 := hr2 i (by omega) (by omega)
              refine g_icmp_ne hF (tgt := 63) (by decide +kernel : decode cX5_isSame 56 = .ok (.if_icmp .ne 7, 3)) (by decide) (by omega) (by omega) (fun c56 => ?_) (fun c56 => ?_)
              · skip
                refine g_iconst hF (by decide +kernel : decode cX5_isSame 63 = .ok (.iconst 0, 1)) ?_
                refine g_iand hF (by decide +kernel : decode cX5_isSame 64 = .ok (.iand, 1)) ?_
                refine g_istore_n hF (by decide +kernel : decode cX5_isSame 65 = .ok (.istore_n 3, 1)) (by decide) ?_
                refine g_iinc hF (by decide +kernel : decode cX5_isSame 66 = .ok (.iinc 4 1, 3)) rfl (by decide) ?_
                refine g_goto hF (tgt := 33) (by decide +kernel : decode cX5_isSame 69 = .ok (.goto (-36), 3)) (by decide) ?_
                exact ih (i + 1) _ _ (by omega) (by omega) (by omega) (by rw [hc1, and0]; exact (al_n (P := fun z => mR m s z = mR m u z) c56).symm)
              · skip
                refine g_iconst hF (by decide +kernel : decode cX5_isSame 59 = .ok (.iconst 1, 1)) ?_
                refine g_goto hF (tgt := 64) (by decide +kernel : decode cX5_isSame 60 = .ok (.goto 4, 3)) (by decide) ?_
                refine g_iand hF (by decide +kernel : decode cX5_isSame 64 = .ok (.iand, 1)) ?_
                refine g_istore_n hF (by decide +kernel : decode cX5_isSame 65 = .ok (.istore_n 3, 1)) (by decide) ?_
                refine g_iinc hF (by decide +kernel : decode cX5_isSame 66 = .ok (.iinc 4 1, 3)) rfl (by decide) ?_
                refine g_goto hF (tgt := 33) (by decide +kernel : decode cX5_isSame 69 = .ok (.goto (-36), 3)) (by decide) ?_
                exact ih (i + 1) _ _ (by omega) (by omega) (by omega) (by rw [hc1, and1]; exact (al_s (P := fun z => mR m s z = mR m u z) c56).symm)
        exact loop 258 0 1 (-1) (by omega) (by omega) (by omega) (bI_t (fun z a b => absurd b (by omega))).symm
      · skip
        exact absurd c23 (by decide)
set_option maxHeartbeats 4000000 in
set_option maxRecDepth 100000 in
theorem n1_X5_isSame (X : jX) (hX : jxok X) (s : Int) (js : jr s) (u : Int) (ju : jr u) (m : jM) (h : ¬ ((0 ≤ s ∧ s < 8) ∧ (0 ≤ u ∧ u < 8))) : Con X yX5_isSame cX5_isSame 5 (some .boolean) 8 [vR 2 51, vI s, vI u] m (fun o m' => o = some (vI 0) ∧ m' = mset m 51 2 1) := by
  refine Con.of hX (by decide) (Nat.le_of_ble_eq_true rfl) (fun F hF hQ => ?_)
  refine g_aload_n hF (by decide +kernel : decode cX5_isSame 0 = .ok (.aload_n 0, 1)) rfl ?_
  refine g_iload_n hF (by decide +kernel : decode cX5_isSame 1 = .ok (.iload_n 1, 1)) rfl ?_
  rcases Classical.em (0 ≤ s ∧ s < 8) with s2 | s2
  · skip
    refine g_callS hF lkX5_42 (y_X5_isSlot X hX _ (by omega) (by omega) _) (by decide +kernel : decode cX5_isSame 2 = .ok (.invokestatic 42, 3)) (by decide) rfl rfl (Nat.le_of_ble_eq_true rfl) (fun v2 m2 h2 => ?_)
    obtain ⟨rfl, e2⟩ := h2
    obtain rfl := e2.symm
    refine g_if_eq hF (tgt := 19) (by decide +kernel : decode cX5_isSame 5 = .ok (.ifCond .eq 14, 3)) (by decide) (by omega) (fun c5 => ?_) (fun c5 => ?_)
    · skip
      exact absurd c5 (by decide)
    · skip
      refine g_iload_n hF (by decide +kernel : decode cX5_isSame 8 = .ok (.iload_n 2, 1)) rfl ?_
      refine g_callS hF lkX5_42 (n_X5_isSlot X hX _ (by omega) (fun q => h ⟨s2, q⟩) _) (by decide +kernel : decode cX5_isSame 9 = .ok (.invokestatic 42, 3)) (by decide) rfl rfl (Nat.le_of_ble_eq_true rfl) (fun v9 m9 h9 => ?_)
      obtain ⟨rfl, e9⟩ := h9
      obtain rfl := e9.symm
      refine g_if_eq hF (tgt := 19) (by decide +kernel : decode cX5_isSame 12 = .ok (.ifCond .eq 7, 3)) (by decide) (by omega) (fun c12 => ?_) (fun c12 => ?_)
      · skip
        refine g_iconst hF (by decide +kernel : decode cX5_isSame 19 = .ok (.iconst 1, 1)) ?_
        refine g_callV hF lkX5_53 (n_X5_fails X hX _ (by decide) _) (by decide +kernel : decode cX5_isSame 20 = .ok (.invokevirtual 53, 3)) (by decide) rfl rfl rfl rfl jok51 (Nat.le_of_ble_eq_true rfl) (fun v20 m20 h20 => ?_)
        obtain ⟨rfl, e20⟩ := h20
        obtain rfl := e20.symm
        refine g_if_eq hF (tgt := 28) (by decide +kernel : decode cX5_isSame 23 = .ok (.ifCond .eq 5, 3)) (by decide) (by omega) (fun c23 => ?_) (fun c23 => ?_)
        · skip
          exact absurd c23 (by decide)
        · skip
          refine g_iconst hF (by decide +kernel : decode cX5_isSame 26 = .ok (.iconst 0, 1)) ?_
          refine g_zreturn hF hQ (by decide +kernel : decode cX5_isSame 27 = .ok (.ireturn, 1)) (by first | exact Or.inl rfl | exact Or.inr rfl | omega) ?_
          exact ⟨rfl, rfl⟩
      · skip
        exact absurd c12 (by decide)
  · skip
    refine g_callS hF lkX5_42 (n_X5_isSlot X hX _ (by omega) (by omega) _) (by decide +kernel : decode cX5_isSame 2 = .ok (.invokestatic 42, 3)) (by decide) rfl rfl (Nat.le_of_ble_eq_true rfl) (fun v2 m2 h2 => ?_)
    obtain ⟨rfl, e2⟩ := h2
    obtain rfl := e2.symm
    refine g_if_eq hF (tgt := 19) (by decide +kernel : decode cX5_isSame 5 = .ok (.ifCond .eq 14, 3)) (by decide) (by omega) (fun c5 => ?_) (fun c5 => ?_)
    · skip
      refine g_iconst hF (by decide +kernel : decode cX5_isSame 19 = .ok (.iconst 1, 1)) ?_
      refine g_callV hF lkX5_53 (n_X5_fails X hX _ (by decide) _) (by decide +kernel : decode cX5_isSame 20 = .ok (.invokevirtual 53, 3)) (by decide) rfl rfl rfl rfl jok51 (Nat.le_of_ble_eq_true rfl) (fun v20 m20 h20 => ?_)
      obtain ⟨rfl, e20⟩ := h20
      obtain rfl := e20.symm
      refine g_if_eq hF (tgt := 28) (by decide +kernel : decode cX5_isSame 23 = .ok (.ifCond .eq 5, 3)) (by decide) (by omega) (fun c23 => ?_) (fun c23 => ?_)
      · skip
        exact absurd c23 (by decide)
      · skip
        refine g_iconst hF (by decide +kernel : decode cX5_isSame 26 = .ok (.iconst 0, 1)) ?_
        refine g_zreturn hF hQ (by decide +kernel : decode cX5_isSame 27 = .ok (.ireturn, 1)) (by first | exact Or.inl rfl | exact Or.inr rfl | omega) ?_
        exact ⟨rfl, rfl⟩
    · skip
      exact absurd c5 (by decide)
set_option maxHeartbeats 4000000 in
set_option maxRecDepth 100000 in
theorem c_X5_areSameKeys (X : jX) (hX : jxok X) (s : Nat) (hs : s < 8) (u : Nat) (hu : u < 8) (m : jM) (hI : MI m) : Con X yX5_areSameKeys cX5_areSameKeys 5 (some .boolean) 8 [vR 2 51, vI s, vI u] m (fun o m' => o = some (vI (bI (eqK (mR m s) (mR m u)))) ∧ MSm m m' ∧ m' 51 2 = 0) := by
  refine Con.of hX (by decide) (Nat.le_of_ble_eq_true rfl) (fun F hF hQ => ?_)
  have hr := hI.1 s hs
  have hr2 := hI.1 u hu
  refine g_aload_n hF (by decide +kernel : decode cX5_areSameKeys 0 = .ok (.aload_n 0, 1)) rfl ?_
  refine g_iload_n hF (by decide +kernel : decode cX5_areSameKeys 1 = .ok (.iload_n 1, 1)) rfl ?_
  refine g_callS hF lkX5_42 (y_X5_isSlot X hX _ (by omega) (by omega) _) (by decide +kernel : decode cX5_areSameKeys 2 = .ok (.invokestatic 42, 3)) (by decide) rfl rfl (Nat.le_of_ble_eq_true rfl) (fun v2 m2 h2 => ?_)
  obtain ⟨rfl, e2⟩ := h2
  obtain rfl := e2.symm
  refine g_if_eq hF (tgt := 19) (by decide +kernel : decode cX5_areSameKeys 5 = .ok (.ifCond .eq 14, 3)) (by decide) (by omega) (fun c5 => ?_) (fun c5 => ?_)
  · skip
    exact absurd c5 (by decide)
  · skip
    refine g_iload_n hF (by decide +kernel : decode cX5_areSameKeys 8 = .ok (.iload_n 2, 1)) rfl ?_
    refine g_callS hF lkX5_42 (y_X5_isSlot X hX _ (by omega) (by omega) _) (by decide +kernel : decode cX5_areSameKeys 9 = .ok (.invokestatic 42, 3)) (by decide) rfl rfl (Nat.le_of_ble_eq_true rfl) (fun v9 m9 h9 => ?_)
    obtain ⟨rfl, e9⟩ := h9
    obtain rfl := e9.symm
    refine g_if_eq hF (tgt := 19) (by decide +kernel : decode cX5_areSameKeys 12 = .ok (.ifCond .eq 7, 3)) (by decide) (by omega) (fun c12 => ?_) (fun c12 => ?_)
    · skip
      exact absurd c12 (by decide)
    · skip
      refine g_iconst hF (by decide +kernel : decode cX5_areSameKeys 15 = .ok (.iconst 0, 1)) ?_
      refine g_goto hF (tgt := 20) (by decide +kernel : decode cX5_areSameKeys 16 = .ok (.goto 4, 3)) (by decide) ?_
      refine g_callV hF lkX5_53 (y_X5_fails X hX _) (by decide +kernel : decode cX5_areSameKeys 20 = .ok (.invokevirtual 53, 3)) (by decide) rfl rfl rfl rfl jok51 (Nat.le_of_ble_eq_true rfl) (fun v20 m20 h20 => ?_)
      obtain ⟨rfl, e20⟩ := h20
      have S0 : MSm m m20 := by rw [e20]; exact MSm_code m (Or.inl rfl) 0
      have I0 := MI_S hI S0
      have z0 : m20 51 2 = 0 := by rw [e20, mset_at]
      have r0 : ∀ t : Nat, mR m20 t = mR m t := fun t => mR_52 (S0.1 52 (by decide) (by decide) (by decide)) t
      refine g_if_eq hF (tgt := 28) (by decide +kernel : decode cX5_areSameKeys 23 = .ok (.ifCond .eq 5, 3)) (by decide) (by omega) (fun c23 => ?_) (fun c23 => ?_)
      · skip
        refine g_iconst hF (by decide +kernel : decode cX5_areSameKeys 28 = .ok (.iconst 1, 1)) ?_
        refine g_istore_n hF (by decide +kernel : decode cX5_areSameKeys 29 = .ok (.istore_n 3, 1)) (by decide) ?_
        refine g_iconst hF (by decide +kernel : decode cX5_areSameKeys 30 = .ok (.iconst (-1), 1)) ?_
        refine g_istore hF (by decide +kernel : decode cX5_areSameKeys 31 = .ok (.istore 4, 2)) (by decide) ?_
        have loop : ∀ (n i : Nat) (a k : Int), i ≤ 257 → 258 ≤ i + n → k = i - 1 → a = bI (∀ z : Int, 0 ≤ z → z < i → (fun z => (mR m s z = -2 ↔ mR m u z = -2)) z) → jG F X m20 33 [(0, vR 2 51), (1, vI s), (2, vI u), (3, vI a), (4, vI k)] [] := by
          intro n
          induction n with
          | zero => intro i a k h1 h2; exact absurd h2 (by omega)
          | succ n ih =>
            intro i a k h1 h2 hc0 hc1
            refine g_iload hF (by decide +kernel : decode cX5_areSameKeys 33 = .ok (.iload 4, 2)) rfl ?_
            refine g_sipush hF (by decide +kernel : decode cX5_areSameKeys 35 = .ok (.sipush 256, 3)) (by decide) ?_
            refine g_icmp_ge hF (tgt := 92) (by decide +kernel : decode cX5_areSameKeys 38 = .ok (.if_icmp .ge 54, 3)) (by decide) (by omega) (by omega) (fun c38 => ?_) (fun c38 => ?_)
            · skip
              refine g_iload_n hF (by decide +kernel : decode cX5_areSameKeys 92 = .ok (.iload_n 3, 1)) rfl ?_
              refine g_zreturn hF hQ (by decide +kernel : decode cX5_areSameKeys 93 = .ok (.ireturn, 1)) (by rw [hc1]; exact bI_c _) ?_
              exact ⟨by rw [hc1]; exact congrArg (fun x => some (vI x)) (bI_iff ⟨fun q z a b => q z a (by omega), fun q z a b => q z a (by omega)⟩), S0, z0⟩
            · skip
              refine g_iload_n hF (by decide +kernel : decode cX5_areSameKeys 41 = .ok (.iload_n 3, 1)) rfl ?_
              refine g_aload_n hF (by decide +kernel : decode cX5_areSameKeys 42 = .ok (.aload_n 0, 1)) rfl ?_
              refine g_iload_n hF (by decide +kernel : decode cX5_areSameKeys 43 = .ok (.iload_n 1, 1)) rfl ?_
              refine g_iload hF (by decide +kernel : decode cX5_areSameKeys 44 = .ok (.iload 4, 2)) rfl ?_
              refine g_callV hF lkX5_60 (c_X5_at X hX _ (by omega) _ (show num _ from ⟨by omega, by omega⟩) _) (by decide +kernel : decode cX5_areSameKeys 46 = .ok (.invokevirtual 60, 3)) (by decide) rfl rfl rfl rfl jok51 (Nat.le_of_ble_eq_true rfl) (fun v46 m46 h46 => ?_)
              obtain ⟨rfl, e46⟩ := h46
              obtain rfl := e46.symm
              rw [show mR m20 s (k + 1) = mR m s i by rw [r0, show k + 1 = (i : Int) by omega]]
              have b46 := hr i (by omega) (by omega)
              refine g_bipush hF (by decide +kernel : decode cX5_areSameKeys 49 = .ok (.bipush (-2), 2)) (by decide) ?_
              refine g_icmp_ne hF (tgt := 58) (by decide +kernel : decode cX5_areSameKeys 51 = .ok (.if_icmp .ne 7, 3)) (by decide) (by omega) (by omega) (fun c51 => ?_) (fun c51 => ?_)
              · skip
                refine g_iconst hF (by decide +kernel : decode cX5_areSameKeys 58 = .ok (.iconst 0, 1)) ?_
                refine g_aload_n hF (by decide +kernel : decode cX5_areSameKeys 59 = .ok (.aload_n 0, 1)) rfl ?_
                refine g_iload_n hF (by decide +kernel : decode cX5_areSameKeys 60 = .ok (.iload_n 2, 1)) rfl ?_
                refine g_iload hF (by decide +kernel : decode cX5_areSameKeys 61 = .ok (.iload 4, 2)) rfl ?_
                refine g_callV hF lkX5_60 (c_X5_at X hX _ (by omega) _ (show num _ from ⟨by omega, by omega⟩) _) (by decide +kernel : decode cX5_areSameKeys 63 = .ok (.invokevirtual 60, 3)) (by decide) rfl rfl rfl rfl jok51 (Nat.le_of_ble_eq_true rfl) (fun v63 m63 h63 => ?_)
                obtain ⟨rfl, e63⟩ := h63
                obtain rfl := e63.symm
                rw [show mR m20 u (k + 1) = mR m u i by rw [r0, show k + 1 = (i : Int) by omega]]
                have b63 := hr2 i (by omega) (by omega)
                refine g_bipush hF (by decide +kernel : decode cX5_areSameKeys 66 = .ok (.bipush (-2), 2)) (by decide) ?_
                refine g_icmp_ne hF (tgt := 75) (by decide +kernel : decode cX5_areSameKeys 68 = .ok (.if_icmp .ne 7, 3)) (by decide) (by omega) (by omega) (fun c68 => ?_) (fun c68 => ?_)
                · skip
                  refine g_iconst hF (by decide +kernel : decode cX5_areSameKeys 75 = .ok (.iconst 0, 1)) ?_
                  refine g_icmp_ne hF (tgt := 83) (by decide +kernel : decode cX5_areSameKeys 76 = .ok (.if_icmp .ne 7, 3)) (by decide) (by omega) (by omega) (fun c76 => ?_) (fun c76 => ?_)
                  · skip
                    exact absurd c76 (by decide)
                  · skip
                    refine g_iconst hF (by decide +kernel : decode cX5_areSameKeys 79 = .ok (.iconst 1, 1)) ?_
                    refine g_goto hF (tgt := 84) (by decide +kernel : decode cX5_areSameKeys 80 = .ok (.goto 4, 3)) (by decide) ?_
                    refine g_iand hF (by decide +kernel : decode cX5_areSameKeys 84 = .ok (.iand, 1)) ?_
                    refine g_istore_n hF (by decide +kernel : decode cX5_areSameKeys 85 = .ok (.istore_n 3, 1)) (by decide) ?_
                    refine g_iinc hF (by decide +kernel : decode cX5_areSameKeys 86 = .ok (.iinc 4 1, 3)) rfl (by decide) ?_
                    refine g_goto hF (tgt := 33) (by decide +kernel : decode cX5_areSameKeys 89 = .ok (.goto (-56), 3)) (by decide) ?_
                    exact ih (i + 1) _ _ (by omega) (by omega) (by omega) (by rw [hc1, and1]; exact (al_s (P := fun z => (mR m s z = -2 ↔ mR m u z = -2)) ⟨fun q => absurd q c51, fun q => absurd q c68⟩).symm)
                · skip
                  refine g_iconst hF (by decide +kernel : decode cX5_areSameKeys 71 = .ok (.iconst 1, 1)) ?_
                  refine g_goto hF (tgt := 76) (by decide +kernel : decode cX5_areSameKeys 72 = .ok (.goto 4, 3)) (by decide) ?_
                  refine g_icmp_ne hF (tgt := 83) (by decide +kernel : decode cX5_areSameKeys 76 = .ok (.if_icmp .ne 7, 3)) (by decide) (by omega) (by omega) (fun c76 => ?_) (fun c76 => ?_)
                  · skip
                    refine g_iconst hF (by decide +kernel : decode cX5_areSameKeys 83 = .ok (.iconst 0, 1)) ?_
                    refine g_iand hF (by decide +kernel : decode cX5_areSameKeys 84 = .ok (.iand, 1)) ?_
                    refine g_istore_n hF (by decide +kernel : decode cX5_areSameKeys 85 = .ok (.istore_n 3, 1)) (by decide) ?_
                    refine g_iinc hF (by decide +kernel : decode cX5_areSameKeys 86 = .ok (.iinc 4 1, 3)) rfl (by decide) ?_
                    refine g_goto hF (tgt := 33) (by decide +kernel : decode cX5_areSameKeys 89 = .ok (.goto (-56), 3)) (by decide) ?_
                    exact ih (i + 1) _ _ (by omega) (by omega) (by omega) (by rw [hc1, and0]; exact (al_n (P := fun z => (mR m s z = -2 ↔ mR m u z = -2)) (fun q => c51 (q.mpr c68))).symm)
                  · skip
                    exact absurd c76 (by decide)
              · skip
                refine g_iconst hF (by decide +kernel : decode cX5_areSameKeys 54 = .ok (.iconst 1, 1)) ?_
                refine g_goto hF (tgt := 59) (by decide +kernel : decode cX5_areSameKeys 55 = .ok (.goto 4, 3)) (by decide) ?_
                refine g_aload_n hF (by decide +kernel : decode cX5_areSameKeys 59 = .ok (.aload_n 0, 1)) rfl ?_
                refine g_iload_n hF (by decide +kernel : decode cX5_areSameKeys 60 = .ok (.iload_n 2, 1)) rfl ?_
                refine g_iload hF (by decide +kernel : decode cX5_areSameKeys 61 = .ok (.iload 4, 2)) rfl ?_
                refine g_callV hF lkX5_60 (c_X5_at X hX _ (by omega) _ (show num _ from ⟨by omega, by omega⟩) _) (by decide +kernel : decode cX5_areSameKeys 63 = .ok (.invokevirtual 60, 3)) (by decide) rfl rfl rfl rfl jok51 (Nat.le_of_ble_eq_true rfl) (fun v63 m63 h63 => ?_)
                obtain ⟨rfl, e63⟩ := h63
                obtain rfl := e63.symm
                rw [show mR m20 u (k + 1) = mR m u i by rw [r0, show k + 1 = (i : Int) by omega]]
                have b63 := hr2 i (by omega) (by omega)
                refine g_bipush hF (by decide +kernel : decode cX5_areSameKeys 66 = .ok (.bipush (-2), 2)) (by decide) ?_
                refine g_icmp_ne hF (tgt := 75) (by decide +kernel : decode cX5_areSameKeys 68 = .ok (.if_icmp .ne 7, 3)) (by decide) (by omega) (by omega) (fun c68 => ?_) (fun c68 => ?_)
                · skip
                  refine g_iconst hF (by decide +kernel : decode cX5_areSameKeys 75 = .ok (.iconst 0, 1)) ?_
                  refine g_icmp_ne hF (tgt := 83) (by decide +kernel : decode cX5_areSameKeys 76 = .ok (.if_icmp .ne 7, 3)) (by decide) (by omega) (by omega) (fun c76 => ?_) (fun c76 => ?_)
                  · skip
                    refine g_iconst hF (by decide +kernel : decode cX5_areSameKeys 83 = .ok (.iconst 0, 1)) ?_
                    refine g_iand hF (by decide +kernel : decode cX5_areSameKeys 84 = .ok (.iand, 1)) ?_
                    refine g_istore_n hF (by decide +kernel : decode cX5_areSameKeys 85 = .ok (.istore_n 3, 1)) (by decide) ?_
                    refine g_iinc hF (by decide +kernel : decode cX5_areSameKeys 86 = .ok (.iinc 4 1, 3)) rfl (by decide) ?_
                    refine g_goto hF (tgt := 33) (by decide +kernel : decode cX5_areSameKeys 89 = .ok (.goto (-56), 3)) (by decide) ?_
                    exact ih (i + 1) _ _ (by omega) (by omega) (by omega) (by rw [hc1, and0]; exact (al_n (P := fun z => (mR m s z = -2 ↔ mR m u z = -2)) (fun q => c68 (q.mp c51))).symm)
                  · skip
                    exact absurd c76 (by decide)
                · skip
                  refine g_iconst hF (by decide +kernel : decode cX5_areSameKeys 71 = .ok (.iconst 1, 1)) ?_
                  refine g_goto hF (tgt := 76) (by decide +kernel : decode cX5_areSameKeys 72 = .ok (.goto 4, 3)) (by decide) ?_
                  refine g_icmp_ne hF (tgt := 83) (by decide +kernel : decode cX5_areSameKeys 76 = .ok (.if_icmp .ne 7, 3)) (by decide) (by omega) (by omega) (fun c76 => ?_) (fun c76 => ?_)
                  · skip
                    exact absurd c76 (by decide)
                  · skip
                    refine g_iconst hF (by decide +kernel : decode cX5_areSameKeys 79 = .ok (.iconst 1, 1)) ?_
                    refine g_goto hF (tgt := 84) (by decide +kernel : decode cX5_areSameKeys 80 = .ok (.goto 4, 3)) (by decide) ?_
                    refine g_iand hF (by decide +kernel : decode cX5_areSameKeys 84 = .ok (.iand, 1)) ?_
                    refine g_istore_n hF (by decide +kernel : decode cX5_areSameKeys 85 = .ok (.istore_n 3, 1)) (by decide) ?_
                    refine g_iinc hF (by decide +kernel : decode cX5_areSameKeys 86 = .ok (.iinc 4 1, 3)) rfl (by decide) ?_
                    refine g_goto hF (tgt := 33) (by decide +kernel : decode cX5_areSameKeys 89 = .ok (.goto (-56), 3)) (by decide) ?_
                    exact ih (i + 1) _ _ (by omega) (by omega) (by omega) (by rw [hc1, and1]; exact (al_s (P := fun z => (mR m s z = -2 ↔ mR m u z = -2)) ⟨fun _ => c68, fun _ => c51⟩).symm)
        exact loop 258 0 1 (-1) (by omega) (by omega) (by omega) (bI_t (fun z a b => absurd b (by omega))).symm
      · skip
        exact absurd c23 (by decide)
set_option maxHeartbeats 4000000 in
set_option maxRecDepth 100000 in
theorem n1_X5_areSameKeys (X : jX) (hX : jxok X) (s : Int) (js : jr s) (u : Int) (ju : jr u) (m : jM) (h : ¬ ((0 ≤ s ∧ s < 8) ∧ (0 ≤ u ∧ u < 8))) : Con X yX5_areSameKeys cX5_areSameKeys 5 (some .boolean) 8 [vR 2 51, vI s, vI u] m (fun o m' => o = some (vI 0) ∧ m' = mset m 51 2 1) := by
  refine Con.of hX (by decide) (Nat.le_of_ble_eq_true rfl) (fun F hF hQ => ?_)
  refine g_aload_n hF (by decide +kernel : decode cX5_areSameKeys 0 = .ok (.aload_n 0, 1)) rfl ?_
  refine g_iload_n hF (by decide +kernel : decode cX5_areSameKeys 1 = .ok (.iload_n 1, 1)) rfl ?_
  rcases Classical.em (0 ≤ s ∧ s < 8) with s2 | s2
  · skip
    refine g_callS hF lkX5_42 (y_X5_isSlot X hX _ (by omega) (by omega) _) (by decide +kernel : decode cX5_areSameKeys 2 = .ok (.invokestatic 42, 3)) (by decide) rfl rfl (Nat.le_of_ble_eq_true rfl) (fun v2 m2 h2 => ?_)
    obtain ⟨rfl, e2⟩ := h2
    obtain rfl := e2.symm
    refine g_if_eq hF (tgt := 19) (by decide +kernel : decode cX5_areSameKeys 5 = .ok (.ifCond .eq 14, 3)) (by decide) (by omega) (fun c5 => ?_) (fun c5 => ?_)
    · skip
      exact absurd c5 (by decide)
    · skip
      refine g_iload_n hF (by decide +kernel : decode cX5_areSameKeys 8 = .ok (.iload_n 2, 1)) rfl ?_
      refine g_callS hF lkX5_42 (n_X5_isSlot X hX _ (by omega) (fun q => h ⟨s2, q⟩) _) (by decide +kernel : decode cX5_areSameKeys 9 = .ok (.invokestatic 42, 3)) (by decide) rfl rfl (Nat.le_of_ble_eq_true rfl) (fun v9 m9 h9 => ?_)
      obtain ⟨rfl, e9⟩ := h9
      obtain rfl := e9.symm
      refine g_if_eq hF (tgt := 19) (by decide +kernel : decode cX5_areSameKeys 12 = .ok (.ifCond .eq 7, 3)) (by decide) (by omega) (fun c12 => ?_) (fun c12 => ?_)
      · skip
        refine g_iconst hF (by decide +kernel : decode cX5_areSameKeys 19 = .ok (.iconst 1, 1)) ?_
        refine g_callV hF lkX5_53 (n_X5_fails X hX _ (by decide) _) (by decide +kernel : decode cX5_areSameKeys 20 = .ok (.invokevirtual 53, 3)) (by decide) rfl rfl rfl rfl jok51 (Nat.le_of_ble_eq_true rfl) (fun v20 m20 h20 => ?_)
        obtain ⟨rfl, e20⟩ := h20
        obtain rfl := e20.symm
        refine g_if_eq hF (tgt := 28) (by decide +kernel : decode cX5_areSameKeys 23 = .ok (.ifCond .eq 5, 3)) (by decide) (by omega) (fun c23 => ?_) (fun c23 => ?_)
        · skip
          exact absurd c23 (by decide)
        · skip
          refine g_iconst hF (by decide +kernel : decode cX5_areSameKeys 26 = .ok (.iconst 0, 1)) ?_
          refine g_zreturn hF hQ (by decide +kernel : decode cX5_areSameKeys 27 = .ok (.ireturn, 1)) (by first | exact Or.inl rfl | exact Or.inr rfl | omega) ?_
          exact ⟨rfl, rfl⟩
      · skip
        exact absurd c12 (by decide)
  · skip
    refine g_callS hF lkX5_42 (n_X5_isSlot X hX _ (by omega) (by omega) _) (by decide +kernel : decode cX5_areSameKeys 2 = .ok (.invokestatic 42, 3)) (by decide) rfl rfl (Nat.le_of_ble_eq_true rfl) (fun v2 m2 h2 => ?_)
    obtain ⟨rfl, e2⟩ := h2
    obtain rfl := e2.symm
    refine g_if_eq hF (tgt := 19) (by decide +kernel : decode cX5_areSameKeys 5 = .ok (.ifCond .eq 14, 3)) (by decide) (by omega) (fun c5 => ?_) (fun c5 => ?_)
    · skip
      refine g_iconst hF (by decide +kernel : decode cX5_areSameKeys 19 = .ok (.iconst 1, 1)) ?_
      refine g_callV hF lkX5_53 (n_X5_fails X hX _ (by decide) _) (by decide +kernel : decode cX5_areSameKeys 20 = .ok (.invokevirtual 53, 3)) (by decide) rfl rfl rfl rfl jok51 (Nat.le_of_ble_eq_true rfl) (fun v20 m20 h20 => ?_)
      obtain ⟨rfl, e20⟩ := h20
      obtain rfl := e20.symm
      refine g_if_eq hF (tgt := 28) (by decide +kernel : decode cX5_areSameKeys 23 = .ok (.ifCond .eq 5, 3)) (by decide) (by omega) (fun c23 => ?_) (fun c23 => ?_)
      · skip
        exact absurd c23 (by decide)
      · skip
        refine g_iconst hF (by decide +kernel : decode cX5_areSameKeys 26 = .ok (.iconst 0, 1)) ?_
        refine g_zreturn hF hQ (by decide +kernel : decode cX5_areSameKeys 27 = .ok (.ireturn, 1)) (by first | exact Or.inl rfl | exact Or.inr rfl | omega) ?_
        exact ⟨rfl, rfl⟩
    · skip
      exact absurd c5 (by decide)
set_option maxHeartbeats 4000000 in
set_option maxRecDepth 100000 in
theorem c_X5_areSameValues (X : jX) (hX : jxok X) (s : Nat) (hs : s < 8) (u : Nat) (hu : u < 8) (m : jM) (hI : MI m) : Con X yX5_areSameValues cX5_areSameValues 5 (some .boolean) 8 [vR 2 51, vI s, vI u] m (fun o m' => o = some (vI (bI (eqV (mR m s) (mR m u)))) ∧ MSm m m' ∧ m' 51 2 = 0) := by
  refine Con.of hX (by decide) (Nat.le_of_ble_eq_true rfl) (fun F hF hQ => ?_)
  have hr := hI.1 s hs
  have hr2 := hI.1 u hu
  refine g_aload_n hF (by decide +kernel : decode cX5_areSameValues 0 = .ok (.aload_n 0, 1)) rfl ?_
  refine g_iload_n hF (by decide +kernel : decode cX5_areSameValues 1 = .ok (.iload_n 1, 1)) rfl ?_
  refine g_callS hF lkX5_42 (y_X5_isSlot X hX _ (by omega) (by omega) _) (by decide +kernel : decode cX5_areSameValues 2 = .ok (.invokestatic 42, 3)) (by decide) rfl rfl (Nat.le_of_ble_eq_true rfl) (fun v2 m2 h2 => ?_)
  obtain ⟨rfl, e2⟩ := h2
  obtain rfl := e2.symm
  refine g_if_eq hF (tgt := 19) (by decide +kernel : decode cX5_areSameValues 5 = .ok (.ifCond .eq 14, 3)) (by decide) (by omega) (fun c5 => ?_) (fun c5 => ?_)
  · skip
    exact absurd c5 (by decide)
  · skip
    refine g_iload_n hF (by decide +kernel : decode cX5_areSameValues 8 = .ok (.iload_n 2, 1)) rfl ?_
    refine g_callS hF lkX5_42 (y_X5_isSlot X hX _ (by omega) (by omega) _) (by decide +kernel : decode cX5_areSameValues 9 = .ok (.invokestatic 42, 3)) (by decide) rfl rfl (Nat.le_of_ble_eq_true rfl) (fun v9 m9 h9 => ?_)
    obtain ⟨rfl, e9⟩ := h9
    obtain rfl := e9.symm
    refine g_if_eq hF (tgt := 19) (by decide +kernel : decode cX5_areSameValues 12 = .ok (.ifCond .eq 7, 3)) (by decide) (by omega) (fun c12 => ?_) (fun c12 => ?_)
    · skip
      exact absurd c12 (by decide)
    · skip
      refine g_iconst hF (by decide +kernel : decode cX5_areSameValues 15 = .ok (.iconst 0, 1)) ?_
      refine g_goto hF (tgt := 20) (by decide +kernel : decode cX5_areSameValues 16 = .ok (.goto 4, 3)) (by decide) ?_
      refine g_callV hF lkX5_53 (y_X5_fails X hX _) (by decide +kernel : decode cX5_areSameValues 20 = .ok (.invokevirtual 53, 3)) (by decide) rfl rfl rfl rfl jok51 (Nat.le_of_ble_eq_true rfl) (fun v20 m20 h20 => ?_)
      obtain ⟨rfl, e20⟩ := h20
      have S0 : MSm m m20 := by rw [e20]; exact MSm_code m (Or.inl rfl) 0
      have I0 := MI_S hI S0
      have z0 : m20 51 2 = 0 := by rw [e20, mset_at]
      have r0 : ∀ t : Nat, mR m20 t = mR m t := fun t => mR_52 (S0.1 52 (by decide) (by decide) (by decide)) t
      refine g_if_eq hF (tgt := 28) (by decide +kernel : decode cX5_areSameValues 23 = .ok (.ifCond .eq 5, 3)) (by decide) (by omega) (fun c23 => ?_) (fun c23 => ?_)
      · skip
        have hm0 : rowok (mR m20 s) := by rw [r0]; exact hr
        have hm1 : rowok (mR m20 u) := by rw [r0]; exact hr2
        refine g_iconst hF (by decide +kernel : decode cX5_areSameValues 28 = .ok (.iconst 1, 1)) ?_
        refine g_istore_n hF (by decide +kernel : decode cX5_areSameValues 29 = .ok (.istore_n 3, 1)) (by decide) ?_
        refine g_iconst hF (by decide +kernel : decode cX5_areSameValues 30 = .ok (.iconst (-1), 1)) ?_
        refine g_istore hF (by decide +kernel : decode cX5_areSameValues 31 = .ok (.istore 4, 2)) (by decide) ?_
        have loop : ∀ (n i : Nat) (a k : Int), i ≤ 257 → 258 ≤ i + n → k = i - 1 → a = bI (∀ z : Int, 0 ≤ z → z < i → (fun z => mult (mR m s) (z - 1) = mult (mR m u) (z - 1)) z) → jG F X m20 33 [(0, vR 2 51), (1, vI s), (2, vI u), (3, vI a), (4, vI k)] [] := by
          intro n
          induction n with
          | zero => intro i a k h1 h2; exact absurd h2 (by omega)
          | succ n ih =>
            intro i a k h1 h2 hc0 hc1
            refine g_iload hF (by decide +kernel : decode cX5_areSameValues 33 = .ok (.iload 4, 2)) rfl ?_
            refine g_sipush hF (by decide +kernel : decode cX5_areSameValues 35 = .ok (.sipush 256, 3)) (by decide) ?_
            refine g_icmp_ge hF (tgt := 72) (by decide +kernel : decode cX5_areSameValues 38 = .ok (.if_icmp .ge 34, 3)) (by decide) (by omega) (by omega) (fun c38 => ?_) (fun c38 => ?_)
            · skip
              refine g_iload_n hF (by decide +kernel : decode cX5_areSameValues 72 = .ok (.iload_n 3, 1)) rfl ?_
              refine g_zreturn hF hQ (by decide +kernel : decode cX5_areSameValues 73 = .ok (.ireturn, 1)) (by rw [hc1]; exact bI_c _) ?_
              exact ⟨by rw [hc1]; exact congrArg (fun x => some (vI x)) (bI_iff ⟨fun q z a b => q z a (by omega), fun q z a b => q z a (by omega)⟩), S0, z0⟩
            · skip
              refine g_iload_n hF (by decide +kernel : decode cX5_areSameValues 41 = .ok (.iload_n 3, 1)) rfl ?_
              refine g_aload_n hF (by decide +kernel : decode cX5_areSameValues 42 = .ok (.aload_n 0, 1)) rfl ?_
              refine g_iload_n hF (by decide +kernel : decode cX5_areSameValues 43 = .ok (.iload_n 1, 1)) rfl ?_
              refine g_iload hF (by decide +kernel : decode cX5_areSameValues 44 = .ok (.iload 4, 2)) rfl ?_
              refine g_callV hF lkX5_72 (c_X5_manyWith X hX _ (by omega) _ (by omega) _ (by assumption)) (by decide +kernel : decode cX5_areSameValues 46 = .ok (.invokevirtual 72, 3)) (by decide) rfl rfl rfl rfl jok51 (Nat.le_of_ble_eq_true rfl) (fun v46 m46 h46 => ?_)
              obtain ⟨rfl, e46⟩ := h46
              obtain rfl := e46.symm
              rw [show mult (mR m20 s) k = mult (mR m s) ((i : Int) - 1) by rw [r0, show k = (i : Int) - 1 by omega]]
              have b46 : 0 ≤ mult (mR m s) ((i : Int) - 1) ∧ mult (mR m s) ((i : Int) - 1) ≤ 257 := mult_b (mR m s) ((i : Int) - 1) 257
              refine g_aload_n hF (by decide +kernel : decode cX5_areSameValues 49 = .ok (.aload_n 0, 1)) rfl ?_
              refine g_iload_n hF (by decide +kernel : decode cX5_areSameValues 50 = .ok (.iload_n 2, 1)) rfl ?_
              refine g_iload hF (by decide +kernel : decode cX5_areSameValues 51 = .ok (.iload 4, 2)) rfl ?_
              refine g_callV hF lkX5_72 (c_X5_manyWith X hX _ (by omega) _ (by omega) _ (by assumption)) (by decide +kernel : decode cX5_areSameValues 53 = .ok (.invokevirtual 72, 3)) (by decide) rfl rfl rfl rfl jok51 (Nat.le_of_ble_eq_true rfl) (fun v53 m53 h53 => ?_)
              obtain ⟨rfl, e53⟩ := h53
              obtain rfl := e53.symm
              rw [show mult (mR m20 u) k = mult (mR m u) ((i : Int) - 1) by rw [r0, show k = (i : Int) - 1 by omega]]
              have b53 : 0 ≤ mult (mR m u) ((i : Int) - 1) ∧ mult (mR m u) ((i : Int) - 1) ≤ 257 := mult_b (mR m u) ((i : Int) - 1) 257
              refine g_icmp_ne hF (tgt := 63) (by decide +kernel : decode cX5_areSameValues 56 = .ok (.if_icmp .ne 7, 3)) (by decide) (by omega) (by omega) (fun c56 => ?_) (fun c56 => ?_)
              · skip
                refine g_iconst hF (by decide +kernel : decode cX5_areSameValues 63 = .ok (.iconst 0, 1)) ?_
                refine g_iand hF (by decide +kernel : decode cX5_areSameValues 64 = .ok (.iand, 1)) ?_
                refine g_istore_n hF (by decide +kernel : decode cX5_areSameValues 65 = .ok (.istore_n 3, 1)) (by decide) ?_
                refine g_iinc hF (by decide +kernel : decode cX5_areSameValues 66 = .ok (.iinc 4 1, 3)) rfl (by decide) ?_
                refine g_goto hF (tgt := 33) (by decide +kernel : decode cX5_areSameValues 69 = .ok (.goto (-36), 3)) (by decide) ?_
                exact ih (i + 1) _ _ (by omega) (by omega) (by omega) (by rw [hc1, and0]; exact (al_n (P := fun z => mult (mR m s) (z - 1) = mult (mR m u) (z - 1)) c56).symm)
              · skip
                refine g_iconst hF (by decide +kernel : decode cX5_areSameValues 59 = .ok (.iconst 1, 1)) ?_
                refine g_goto hF (tgt := 64) (by decide +kernel : decode cX5_areSameValues 60 = .ok (.goto 4, 3)) (by decide) ?_
                refine g_iand hF (by decide +kernel : decode cX5_areSameValues 64 = .ok (.iand, 1)) ?_
                refine g_istore_n hF (by decide +kernel : decode cX5_areSameValues 65 = .ok (.istore_n 3, 1)) (by decide) ?_
                refine g_iinc hF (by decide +kernel : decode cX5_areSameValues 66 = .ok (.iinc 4 1, 3)) rfl (by decide) ?_
                refine g_goto hF (tgt := 33) (by decide +kernel : decode cX5_areSameValues 69 = .ok (.goto (-36), 3)) (by decide) ?_
                exact ih (i + 1) _ _ (by omega) (by omega) (by omega) (by rw [hc1, and1]; exact (al_s (P := fun z => mult (mR m s) (z - 1) = mult (mR m u) (z - 1)) c56).symm)
        exact loop 258 0 1 (-1) (by omega) (by omega) (by omega) (bI_t (fun z a b => absurd b (by omega))).symm
      · skip
        exact absurd c23 (by decide)
set_option maxHeartbeats 4000000 in
set_option maxRecDepth 100000 in
theorem n1_X5_areSameValues (X : jX) (hX : jxok X) (s : Int) (js : jr s) (u : Int) (ju : jr u) (m : jM) (h : ¬ ((0 ≤ s ∧ s < 8) ∧ (0 ≤ u ∧ u < 8))) : Con X yX5_areSameValues cX5_areSameValues 5 (some .boolean) 8 [vR 2 51, vI s, vI u] m (fun o m' => o = some (vI 0) ∧ m' = mset m 51 2 1) := by
  refine Con.of hX (by decide) (Nat.le_of_ble_eq_true rfl) (fun F hF hQ => ?_)
  refine g_aload_n hF (by decide +kernel : decode cX5_areSameValues 0 = .ok (.aload_n 0, 1)) rfl ?_
  refine g_iload_n hF (by decide +kernel : decode cX5_areSameValues 1 = .ok (.iload_n 1, 1)) rfl ?_
  rcases Classical.em (0 ≤ s ∧ s < 8) with s2 | s2
  · skip
    refine g_callS hF lkX5_42 (y_X5_isSlot X hX _ (by omega) (by omega) _) (by decide +kernel : decode cX5_areSameValues 2 = .ok (.invokestatic 42, 3)) (by decide) rfl rfl (Nat.le_of_ble_eq_true rfl) (fun v2 m2 h2 => ?_)
    obtain ⟨rfl, e2⟩ := h2
    obtain rfl := e2.symm
    refine g_if_eq hF (tgt := 19) (by decide +kernel : decode cX5_areSameValues 5 = .ok (.ifCond .eq 14, 3)) (by decide) (by omega) (fun c5 => ?_) (fun c5 => ?_)
    · skip
      exact absurd c5 (by decide)
    · skip
      refine g_iload_n hF (by decide +kernel : decode cX5_areSameValues 8 = .ok (.iload_n 2, 1)) rfl ?_
      refine g_callS hF lkX5_42 (n_X5_isSlot X hX _ (by omega) (fun q => h ⟨s2, q⟩) _) (by decide +kernel : decode cX5_areSameValues 9 = .ok (.invokestatic 42, 3)) (by decide) rfl rfl (Nat.le_of_ble_eq_true rfl) (fun v9 m9 h9 => ?_)
      obtain ⟨rfl, e9⟩ := h9
      obtain rfl := e9.symm
      refine g_if_eq hF (tgt := 19) (by decide +kernel : decode cX5_areSameValues 12 = .ok (.ifCond .eq 7, 3)) (by decide) (by omega) (fun c12 => ?_) (fun c12 => ?_)
      · skip
        refine g_iconst hF (by decide +kernel : decode cX5_areSameValues 19 = .ok (.iconst 1, 1)) ?_
        refine g_callV hF lkX5_53 (n_X5_fails X hX _ (by decide) _) (by decide +kernel : decode cX5_areSameValues 20 = .ok (.invokevirtual 53, 3)) (by decide) rfl rfl rfl rfl jok51 (Nat.le_of_ble_eq_true rfl) (fun v20 m20 h20 => ?_)
        obtain ⟨rfl, e20⟩ := h20
        obtain rfl := e20.symm
        refine g_if_eq hF (tgt := 28) (by decide +kernel : decode cX5_areSameValues 23 = .ok (.ifCond .eq 5, 3)) (by decide) (by omega) (fun c23 => ?_) (fun c23 => ?_)
        · skip
          exact absurd c23 (by decide)
        · skip
          refine g_iconst hF (by decide +kernel : decode cX5_areSameValues 26 = .ok (.iconst 0, 1)) ?_
          refine g_zreturn hF hQ (by decide +kernel : decode cX5_areSameValues 27 = .ok (.ireturn, 1)) (by first | exact Or.inl rfl | exact Or.inr rfl | omega) ?_
          exact ⟨rfl, rfl⟩
      · skip
        exact absurd c12 (by decide)
  · skip
    refine g_callS hF lkX5_42 (n_X5_isSlot X hX _ (by omega) (by omega) _) (by decide +kernel : decode cX5_areSameValues 2 = .ok (.invokestatic 42, 3)) (by decide) rfl rfl (Nat.le_of_ble_eq_true rfl) (fun v2 m2 h2 => ?_)
    obtain ⟨rfl, e2⟩ := h2
    obtain rfl := e2.symm
    refine g_if_eq hF (tgt := 19) (by decide +kernel : decode cX5_areSameValues 5 = .ok (.ifCond .eq 14, 3)) (by decide) (by omega) (fun c5 => ?_) (fun c5 => ?_)
    · skip
      refine g_iconst hF (by decide +kernel : decode cX5_areSameValues 19 = .ok (.iconst 1, 1)) ?_
      refine g_callV hF lkX5_53 (n_X5_fails X hX _ (by decide) _) (by decide +kernel : decode cX5_areSameValues 20 = .ok (.invokevirtual 53, 3)) (by decide) rfl rfl rfl rfl jok51 (Nat.le_of_ble_eq_true rfl) (fun v20 m20 h20 => ?_)
      obtain ⟨rfl, e20⟩ := h20
      obtain rfl := e20.symm
      refine g_if_eq hF (tgt := 28) (by decide +kernel : decode cX5_areSameValues 23 = .ok (.ifCond .eq 5, 3)) (by decide) (by omega) (fun c23 => ?_) (fun c23 => ?_)
      · skip
        exact absurd c23 (by decide)
      · skip
        refine g_iconst hF (by decide +kernel : decode cX5_areSameValues 26 = .ok (.iconst 0, 1)) ?_
        refine g_zreturn hF hQ (by decide +kernel : decode cX5_areSameValues 27 = .ok (.ireturn, 1)) (by first | exact Or.inl rfl | exact Or.inr rfl | omega) ?_
        exact ⟨rfl, rfl⟩
    · skip
      exact absurd c5 (by decide)
set_option maxHeartbeats 4000000 in
set_option maxRecDepth 100000 in
theorem c_X5_hash (X : jX) (hX : jxok X) (s : Nat) (hs : s < 8) (m : jM) (hI : MI m) : Con X yX5_hash cX5_hash 4 (some .int) 8 [vR 2 51, vI s] m (fun o m' => o = some (vI (pairsN (mR m s))) ∧ MSm m m' ∧ m' 51 2 = 0) := by
  refine Con.of hX (by decide) (Nat.le_of_ble_eq_true rfl) (fun F hF hQ => ?_)
  have hr := hI.1 s hs
  refine g_aload_n hF (by decide +kernel : decode cX5_hash 0 = .ok (.aload_n 0, 1)) rfl ?_
  refine g_iload_n hF (by decide +kernel : decode cX5_hash 1 = .ok (.iload_n 1, 1)) rfl ?_
  refine g_callS hF lkX5_42 (y_X5_isSlot X hX _ (by omega) (by omega) _) (by decide +kernel : decode cX5_hash 2 = .ok (.invokestatic 42, 3)) (by decide) rfl rfl (Nat.le_of_ble_eq_true rfl) (fun v2 m2 h2 => ?_)
  obtain ⟨rfl, e2⟩ := h2
  obtain rfl := e2.symm
  refine g_if_eq hF (tgt := 12) (by decide +kernel : decode cX5_hash 5 = .ok (.ifCond .eq 7, 3)) (by decide) (by omega) (fun c5 => ?_) (fun c5 => ?_)
  · skip
    exact absurd c5 (by decide)
  · skip
    refine g_iconst hF (by decide +kernel : decode cX5_hash 8 = .ok (.iconst 0, 1)) ?_
    refine g_goto hF (tgt := 13) (by decide +kernel : decode cX5_hash 9 = .ok (.goto 4, 3)) (by decide) ?_
    refine g_callV hF lkX5_53 (y_X5_fails X hX _) (by decide +kernel : decode cX5_hash 13 = .ok (.invokevirtual 53, 3)) (by decide) rfl rfl rfl rfl jok51 (Nat.le_of_ble_eq_true rfl) (fun v13 m13 h13 => ?_)
    obtain ⟨rfl, e13⟩ := h13
    have S0 : MSm m m13 := by rw [e13]; exact MSm_code m (Or.inl rfl) 0
    have I0 := MI_S hI S0
    have z0 : m13 51 2 = 0 := by rw [e13, mset_at]
    have r0 : ∀ t : Nat, mR m13 t = mR m t := fun t => mR_52 (S0.1 52 (by decide) (by decide) (by decide)) t
    refine g_if_eq hF (tgt := 21) (by decide +kernel : decode cX5_hash 16 = .ok (.ifCond .eq 5, 3)) (by decide) (by omega) (fun c16 => ?_) (fun c16 => ?_)
    · skip
      refine g_iconst hF (by decide +kernel : decode cX5_hash 21 = .ok (.iconst 0, 1)) ?_
      refine g_istore_n hF (by decide +kernel : decode cX5_hash 22 = .ok (.istore_n 2, 1)) (by decide) ?_
      refine g_iconst hF (by decide +kernel : decode cX5_hash 23 = .ok (.iconst (-1), 1)) ?_
      refine g_istore_n hF (by decide +kernel : decode cX5_hash 24 = .ok (.istore_n 3, 1)) (by decide) ?_
      have loop : ∀ (n i : Nat) (a k : Int), i ≤ 257 → 258 ≤ i + n → k = i - 1 → a = sumN (fun z => if mR m s z = -2 then 0 else jxor (mx0 (z - 1)) (mx0 (mR m s z))) i → jG F X m13 25 [(0, vR 2 51), (1, vI s), (2, vI a), (3, vI k)] [] := by
        intro n
        induction n with
        | zero => intro i a k h1 h2; exact absurd h2 (by omega)
        | succ n ih =>
          intro i a k h1 h2 hc0 hc1
          refine g_iload_n hF (by decide +kernel : decode cX5_hash 25 = .ok (.iload_n 3, 1)) rfl ?_
          refine g_sipush hF (by decide +kernel : decode cX5_hash 26 = .ok (.sipush 256, 3)) (by decide) ?_
          refine g_icmp_ge hF (tgt := 81) (by decide +kernel : decode cX5_hash 29 = .ok (.if_icmp .ge 52, 3)) (by decide) (by omega) (by omega) (fun c29 => ?_) (fun c29 => ?_)
          · skip
            refine g_iload_n hF (by decide +kernel : decode cX5_hash 81 = .ok (.iload_n 2, 1)) rfl ?_
            refine g_ireturn hF hQ (by decide +kernel : decode cX5_hash 82 = .ok (.ireturn, 1)) ?_
            exact ⟨by rw [hc1, show i = 257 by omega]; rfl, S0, z0⟩
          · skip
            refine g_aload_n hF (by decide +kernel : decode cX5_hash 32 = .ok (.aload_n 0, 1)) rfl ?_
            refine g_iload_n hF (by decide +kernel : decode cX5_hash 33 = .ok (.iload_n 1, 1)) rfl ?_
            refine g_iload_n hF (by decide +kernel : decode cX5_hash 34 = .ok (.iload_n 3, 1)) rfl ?_
            refine g_callV hF lkX5_60 (c_X5_at X hX _ (by omega) _ (show num _ from ⟨by omega, by omega⟩) _) (by decide +kernel : decode cX5_hash 35 = .ok (.invokevirtual 60, 3)) (by decide) rfl rfl rfl rfl jok51 (Nat.le_of_ble_eq_true rfl) (fun v35 m35 h35 => ?_)
            obtain ⟨rfl, e35⟩ := h35
            obtain rfl := e35.symm
            rw [show mR m13 s (k + 1) = mR m s i by rw [r0, show k + 1 = (i : Int) by omega]]
            have b35 := hr i (by omega) (by omega)
            refine g_bipush hF (by decide +kernel : decode cX5_hash 38 = .ok (.bipush (-2), 2)) (by decide) ?_
            refine g_icmp_le hF (tgt := 75) (by decide +kernel : decode cX5_hash 40 = .ok (.if_icmp .le 35, 3)) (by decide) (by omega) (by omega) (fun c40 => ?_) (fun c40 => ?_)
            · skip
              refine g_iinc hF (by decide +kernel : decode cX5_hash 75 = .ok (.iinc 3 1, 3)) rfl (by decide) ?_
              refine g_goto hF (tgt := 25) (by decide +kernel : decode cX5_hash 78 = .ok (.goto (-53), 3)) (by decide) ?_
              exact ih (i + 1) _ _ (by omega) (by omega) (by omega) (by rw [hc1, sumN_s, if_pos (by omega)]; omega)
            · skip
              refine g_iload_n hF (by decide +kernel : decode cX5_hash 43 = .ok (.iload_n 2, 1)) rfl ?_
              refine g_iload_n hF (by decide +kernel : decode cX5_hash 44 = .ok (.iload_n 3, 1)) rfl ?_
              refine g_if_ge hF (tgt := 52) (by decide +kernel : decode cX5_hash 45 = .ok (.ifCond .ge 7, 3)) (by decide) (by omega) (fun c45 => ?_) (fun c45 => ?_)
              · skip
                refine g_iload_n hF (by decide +kernel : decode cX5_hash 52 = .ok (.iload_n 3, 1)) rfl ?_
                refine g_aload_n hF (by decide +kernel : decode cX5_hash 53 = .ok (.aload_n 0, 1)) rfl ?_
                refine g_iload_n hF (by decide +kernel : decode cX5_hash 54 = .ok (.iload_n 1, 1)) rfl ?_
                refine g_iload_n hF (by decide +kernel : decode cX5_hash 55 = .ok (.iload_n 3, 1)) rfl ?_
                refine g_callV hF lkX5_60 (c_X5_at X hX _ (by omega) _ (show num _ from ⟨by omega, by omega⟩) _) (by decide +kernel : decode cX5_hash 56 = .ok (.invokevirtual 60, 3)) (by decide) rfl rfl rfl rfl jok51 (Nat.le_of_ble_eq_true rfl) (fun v56 m56 h56 => ?_)
                obtain ⟨rfl, e56⟩ := h56
                obtain rfl := e56.symm
                rw [show mR m13 s (k + 1) = mR m s i by rw [r0, show k + 1 = (i : Int) by omega]]
                have b56 := hr i (by omega) (by omega)
                refine g_if_ge hF (tgt := 66) (by decide +kernel : decode cX5_hash 59 = .ok (.ifCond .ge 7, 3)) (by decide) (by omega) (fun c59 => ?_) (fun c59 => ?_)
                · skip
                  refine g_aload_n hF (by decide +kernel : decode cX5_hash 66 = .ok (.aload_n 0, 1)) rfl ?_
                  refine g_iload_n hF (by decide +kernel : decode cX5_hash 67 = .ok (.iload_n 1, 1)) rfl ?_
                  refine g_iload_n hF (by decide +kernel : decode cX5_hash 68 = .ok (.iload_n 3, 1)) rfl ?_
                  refine g_callV hF lkX5_60 (c_X5_at X hX _ (by omega) _ (show num _ from ⟨by omega, by omega⟩) _) (by decide +kernel : decode cX5_hash 69 = .ok (.invokevirtual 60, 3)) (by decide) rfl rfl rfl rfl jok51 (Nat.le_of_ble_eq_true rfl) (fun v69 m69 h69 => ?_)
                  obtain ⟨rfl, e69⟩ := h69
                  obtain rfl := e69.symm
                  rw [show mR m13 s (k + 1) = mR m s i by rw [r0, show k + 1 = (i : Int) by omega]]
                  have b69 := hr i (by omega) (by omega)
                  refine g_ixor hF (by decide +kernel : decode cX5_hash 72 = .ok (.ixor, 1)) ?_
                  refine g_iadd hF (by decide +kernel : decode cX5_hash 73 = .ok (.iadd, 1)) ?_
                  refine g_istore_n hF (by decide +kernel : decode cX5_hash 74 = .ok (.istore_n 2, 1)) (by decide) ?_
                  refine g_iinc hF (by decide +kernel : decode cX5_hash 75 = .ok (.iinc 3 1, 3)) rfl (by decide) ?_
                  refine g_goto hF (tgt := 25) (by decide +kernel : decode cX5_hash 78 = .ok (.goto (-53), 3)) (by decide) ?_
                  exact ih (i + 1) _ _ (by omega) (by omega) (by omega) (by rw [hc1, sumN_s, if_neg (by omega), show mx0 ((i : Int) - 1) = k by unfold mx0; first | rw [if_pos (by omega)] | (rw [if_neg (by omega)]; omega), show mx0 (mR m s i) = mR m s i by unfold mx0; first | rw [if_pos (by omega)] | rw [if_neg (by omega)]])
                · skip
                  refine g_iconst hF (by decide +kernel : decode cX5_hash 62 = .ok (.iconst 0, 1)) ?_
                  refine g_goto hF (tgt := 72) (by decide +kernel : decode cX5_hash 63 = .ok (.goto 9, 3)) (by decide) ?_
                  refine g_ixor hF (by decide +kernel : decode cX5_hash 72 = .ok (.ixor, 1)) ?_
                  refine g_iadd hF (by decide +kernel : decode cX5_hash 73 = .ok (.iadd, 1)) ?_
                  refine g_istore_n hF (by decide +kernel : decode cX5_hash 74 = .ok (.istore_n 2, 1)) (by decide) ?_
                  refine g_iinc hF (by decide +kernel : decode cX5_hash 75 = .ok (.iinc 3 1, 3)) rfl (by decide) ?_
                  refine g_goto hF (tgt := 25) (by decide +kernel : decode cX5_hash 78 = .ok (.goto (-53), 3)) (by decide) ?_
                  exact ih (i + 1) _ _ (by omega) (by omega) (by omega) (by rw [hc1, sumN_s, if_neg (by omega), show mx0 ((i : Int) - 1) = k by unfold mx0; first | rw [if_pos (by omega)] | (rw [if_neg (by omega)]; omega), show mx0 (mR m s i) = 0 by unfold mx0; first | rw [if_pos (by omega)] | rw [if_neg (by omega)]])
              · skip
                refine g_iconst hF (by decide +kernel : decode cX5_hash 48 = .ok (.iconst 0, 1)) ?_
                refine g_goto hF (tgt := 53) (by decide +kernel : decode cX5_hash 49 = .ok (.goto 4, 3)) (by decide) ?_
                refine g_aload_n hF (by decide +kernel : decode cX5_hash 53 = .ok (.aload_n 0, 1)) rfl ?_
                refine g_iload_n hF (by decide +kernel : decode cX5_hash 54 = .ok (.iload_n 1, 1)) rfl ?_
                refine g_iload_n hF (by decide +kernel : decode cX5_hash 55 = .ok (.iload_n 3, 1)) rfl ?_
                refine g_callV hF lkX5_60 (c_X5_at X hX _ (by omega) _ (show num _ from ⟨by omega, by omega⟩) _) (by decide +kernel : decode cX5_hash 56 = .ok (.invokevirtual 60, 3)) (by decide) rfl rfl rfl rfl jok51 (Nat.le_of_ble_eq_true rfl) (fun v56 m56 h56 => ?_)
                obtain ⟨rfl, e56⟩ := h56
                obtain rfl := e56.symm
                rw [show mR m13 s (k + 1) = mR m s i by rw [r0, show k + 1 = (i : Int) by omega]]
                have b56 := hr i (by omega) (by omega)
                refine g_if_ge hF (tgt := 66) (by decide +kernel : decode cX5_hash 59 = .ok (.ifCond .ge 7, 3)) (by decide) (by omega) (fun c59 => ?_) (fun c59 => ?_)
                · skip
                  refine g_aload_n hF (by decide +kernel : decode cX5_hash 66 = .ok (.aload_n 0, 1)) rfl ?_
                  refine g_iload_n hF (by decide +kernel : decode cX5_hash 67 = .ok (.iload_n 1, 1)) rfl ?_
                  refine g_iload_n hF (by decide +kernel : decode cX5_hash 68 = .ok (.iload_n 3, 1)) rfl ?_
                  refine g_callV hF lkX5_60 (c_X5_at X hX _ (by omega) _ (show num _ from ⟨by omega, by omega⟩) _) (by decide +kernel : decode cX5_hash 69 = .ok (.invokevirtual 60, 3)) (by decide) rfl rfl rfl rfl jok51 (Nat.le_of_ble_eq_true rfl) (fun v69 m69 h69 => ?_)
                  obtain ⟨rfl, e69⟩ := h69
                  obtain rfl := e69.symm
                  rw [show mR m13 s (k + 1) = mR m s i by rw [r0, show k + 1 = (i : Int) by omega]]
                  have b69 := hr i (by omega) (by omega)
                  refine g_ixor hF (by decide +kernel : decode cX5_hash 72 = .ok (.ixor, 1)) ?_
                  refine g_iadd hF (by decide +kernel : decode cX5_hash 73 = .ok (.iadd, 1)) ?_
                  refine g_istore_n hF (by decide +kernel : decode cX5_hash 74 = .ok (.istore_n 2, 1)) (by decide) ?_
                  refine g_iinc hF (by decide +kernel : decode cX5_hash 75 = .ok (.iinc 3 1, 3)) rfl (by decide) ?_
                  refine g_goto hF (tgt := 25) (by decide +kernel : decode cX5_hash 78 = .ok (.goto (-53), 3)) (by decide) ?_
                  exact ih (i + 1) _ _ (by omega) (by omega) (by omega) (by rw [hc1, sumN_s, if_neg (by omega), show mx0 ((i : Int) - 1) = 0 by unfold mx0; first | rw [if_pos (by omega)] | (rw [if_neg (by omega)]; omega), show mx0 (mR m s i) = mR m s i by unfold mx0; first | rw [if_pos (by omega)] | rw [if_neg (by omega)]])
                · skip
                  refine g_iconst hF (by decide +kernel : decode cX5_hash 62 = .ok (.iconst 0, 1)) ?_
                  refine g_goto hF (tgt := 72) (by decide +kernel : decode cX5_hash 63 = .ok (.goto 9, 3)) (by decide) ?_
                  refine g_ixor hF (by decide +kernel : decode cX5_hash 72 = .ok (.ixor, 1)) ?_
                  refine g_iadd hF (by decide +kernel : decode cX5_hash 73 = .ok (.iadd, 1)) ?_
                  refine g_istore_n hF (by decide +kernel : decode cX5_hash 74 = .ok (.istore_n 2, 1)) (by decide) ?_
                  refine g_iinc hF (by decide +kernel : decode cX5_hash 75 = .ok (.iinc 3 1, 3)) rfl (by decide) ?_
                  refine g_goto hF (tgt := 25) (by decide +kernel : decode cX5_hash 78 = .ok (.goto (-53), 3)) (by decide) ?_
                  exact ih (i + 1) _ _ (by omega) (by omega) (by omega) (by rw [hc1, sumN_s, if_neg (by omega), show mx0 ((i : Int) - 1) = 0 by unfold mx0; first | rw [if_pos (by omega)] | (rw [if_neg (by omega)]; omega), show mx0 (mR m s i) = 0 by unfold mx0; first | rw [if_pos (by omega)] | rw [if_neg (by omega)]])
      exact loop 258 0 0 (-1) (by omega) (by omega) (by omega) (sumN_0 _).symm
    · skip
      exact absurd c16 (by decide)
set_option maxHeartbeats 4000000 in
set_option maxRecDepth 100000 in
theorem n1_X5_hash (X : jX) (hX : jxok X) (s : Int) (js : jr s) (m : jM) (h : ¬ (0 ≤ s ∧ s < 8)) : Con X yX5_hash cX5_hash 4 (some .int) 8 [vR 2 51, vI s] m (fun o m' => o = some (vI 0) ∧ m' = mset m 51 2 1) := by
  refine Con.of hX (by decide) (Nat.le_of_ble_eq_true rfl) (fun F hF hQ => ?_)
  refine g_aload_n hF (by decide +kernel : decode cX5_hash 0 = .ok (.aload_n 0, 1)) rfl ?_
  refine g_iload_n hF (by decide +kernel : decode cX5_hash 1 = .ok (.iload_n 1, 1)) rfl ?_
  refine g_callS hF lkX5_42 (n_X5_isSlot X hX _ (by omega) (by omega) _) (by decide +kernel : decode cX5_hash 2 = .ok (.invokestatic 42, 3)) (by decide) rfl rfl (Nat.le_of_ble_eq_true rfl) (fun v2 m2 h2 => ?_)
  obtain ⟨rfl, e2⟩ := h2
  obtain rfl := e2.symm
  refine g_if_eq hF (tgt := 12) (by decide +kernel : decode cX5_hash 5 = .ok (.ifCond .eq 7, 3)) (by decide) (by omega) (fun c5 => ?_) (fun c5 => ?_)
  · skip
    refine g_iconst hF (by decide +kernel : decode cX5_hash 12 = .ok (.iconst 1, 1)) ?_
    refine g_callV hF lkX5_53 (n_X5_fails X hX _ (by decide) _) (by decide +kernel : decode cX5_hash 13 = .ok (.invokevirtual 53, 3)) (by decide) rfl rfl rfl rfl jok51 (Nat.le_of_ble_eq_true rfl) (fun v13 m13 h13 => ?_)
    obtain ⟨rfl, e13⟩ := h13
    obtain rfl := e13.symm
    refine g_if_eq hF (tgt := 21) (by decide +kernel : decode cX5_hash 16 = .ok (.ifCond .eq 5, 3)) (by decide) (by omega) (fun c16 => ?_) (fun c16 => ?_)
    · skip
      exact absurd c16 (by decide)
    · skip
      refine g_iconst hF (by decide +kernel : decode cX5_hash 19 = .ok (.iconst 0, 1)) ?_
      refine g_ireturn hF hQ (by decide +kernel : decode cX5_hash 20 = .ok (.ireturn, 1)) ?_
      exact ⟨rfl, rfl⟩
  · skip
    exact absurd c5 (by decide)
set_option maxHeartbeats 4000000 in
set_option maxRecDepth 100000 in
theorem c_X5_keysHash (X : jX) (hX : jxok X) (s : Nat) (hs : s < 8) (m : jM) (hI : MI m) : Con X yX5_keysHash cX5_keysHash 4 (some .int) 8 [vR 2 51, vI s] m (fun o m' => o = some (vI (keysN (mR m s))) ∧ MSm m m' ∧ m' 51 2 = 0) := by
  refine Con.of hX (by decide) (Nat.le_of_ble_eq_true rfl) (fun F hF hQ => ?_)
  have hr := hI.1 s hs
  refine g_aload_n hF (by decide +kernel : decode cX5_keysHash 0 = .ok (.aload_n 0, 1)) rfl ?_
  refine g_iload_n hF (by decide +kernel : decode cX5_keysHash 1 = .ok (.iload_n 1, 1)) rfl ?_
  refine g_callS hF lkX5_42 (y_X5_isSlot X hX _ (by omega) (by omega) _) (by decide +kernel : decode cX5_keysHash 2 = .ok (.invokestatic 42, 3)) (by decide) rfl rfl (Nat.le_of_ble_eq_true rfl) (fun v2 m2 h2 => ?_)
  obtain ⟨rfl, e2⟩ := h2
  obtain rfl := e2.symm
  refine g_if_eq hF (tgt := 12) (by decide +kernel : decode cX5_keysHash 5 = .ok (.ifCond .eq 7, 3)) (by decide) (by omega) (fun c5 => ?_) (fun c5 => ?_)
  · skip
    exact absurd c5 (by decide)
  · skip
    refine g_iconst hF (by decide +kernel : decode cX5_keysHash 8 = .ok (.iconst 0, 1)) ?_
    refine g_goto hF (tgt := 13) (by decide +kernel : decode cX5_keysHash 9 = .ok (.goto 4, 3)) (by decide) ?_
    refine g_callV hF lkX5_53 (y_X5_fails X hX _) (by decide +kernel : decode cX5_keysHash 13 = .ok (.invokevirtual 53, 3)) (by decide) rfl rfl rfl rfl jok51 (Nat.le_of_ble_eq_true rfl) (fun v13 m13 h13 => ?_)
    obtain ⟨rfl, e13⟩ := h13
    have S0 : MSm m m13 := by rw [e13]; exact MSm_code m (Or.inl rfl) 0
    have I0 := MI_S hI S0
    have z0 : m13 51 2 = 0 := by rw [e13, mset_at]
    have r0 : ∀ t : Nat, mR m13 t = mR m t := fun t => mR_52 (S0.1 52 (by decide) (by decide) (by decide)) t
    refine g_if_eq hF (tgt := 21) (by decide +kernel : decode cX5_keysHash 16 = .ok (.ifCond .eq 5, 3)) (by decide) (by omega) (fun c16 => ?_) (fun c16 => ?_)
    · skip
      refine g_iconst hF (by decide +kernel : decode cX5_keysHash 21 = .ok (.iconst 0, 1)) ?_
      refine g_istore_n hF (by decide +kernel : decode cX5_keysHash 22 = .ok (.istore_n 2, 1)) (by decide) ?_
      refine g_iconst hF (by decide +kernel : decode cX5_keysHash 23 = .ok (.iconst 0, 1)) ?_
      refine g_istore_n hF (by decide +kernel : decode cX5_keysHash 24 = .ok (.istore_n 3, 1)) (by decide) ?_
      have loop : ∀ (n i : Nat) (a k : Int), i ≤ 257 → 258 ≤ i + n → k = i - 1 → 1 ≤ i → a = sumN (fun z => if mR m s z = -2 then 0 else mx0 (z - 1)) i → jG F X m13 25 [(0, vR 2 51), (1, vI s), (2, vI a), (3, vI k)] [] := by
        intro n
        induction n with
        | zero => intro i a k h1 h2; exact absurd h2 (by omega)
        | succ n ih =>
          intro i a k h1 h2 hc0 hc1 hc2
          refine g_iload_n hF (by decide +kernel : decode cX5_keysHash 25 = .ok (.iload_n 3, 1)) rfl ?_
          refine g_sipush hF (by decide +kernel : decode cX5_keysHash 26 = .ok (.sipush 256, 3)) (by decide) ?_
          refine g_icmp_ge hF (tgt := 57) (by decide +kernel : decode cX5_keysHash 29 = .ok (.if_icmp .ge 28, 3)) (by decide) (by omega) (by omega) (fun c29 => ?_) (fun c29 => ?_)
          · skip
            refine g_iload_n hF (by decide +kernel : decode cX5_keysHash 57 = .ok (.iload_n 2, 1)) rfl ?_
            refine g_ireturn hF hQ (by decide +kernel : decode cX5_keysHash 58 = .ok (.ireturn, 1)) ?_
            exact ⟨by rw [hc2, show i = 257 by omega]; rfl, S0, z0⟩
          · skip
            refine g_iload_n hF (by decide +kernel : decode cX5_keysHash 32 = .ok (.iload_n 2, 1)) rfl ?_
            refine g_aload_n hF (by decide +kernel : decode cX5_keysHash 33 = .ok (.aload_n 0, 1)) rfl ?_
            refine g_iload_n hF (by decide +kernel : decode cX5_keysHash 34 = .ok (.iload_n 1, 1)) rfl ?_
            refine g_iload_n hF (by decide +kernel : decode cX5_keysHash 35 = .ok (.iload_n 3, 1)) rfl ?_
            refine g_callV hF lkX5_60 (c_X5_at X hX _ (by omega) _ (show num _ from ⟨by omega, by omega⟩) _) (by decide +kernel : decode cX5_keysHash 36 = .ok (.invokevirtual 60, 3)) (by decide) rfl rfl rfl rfl jok51 (Nat.le_of_ble_eq_true rfl) (fun v36 m36 h36 => ?_)
            obtain ⟨rfl, e36⟩ := h36
            obtain rfl := e36.symm
            rw [show mR m13 s (k + 1) = mR m s i by rw [r0, show k + 1 = (i : Int) by omega]]
            have b36 := hr i (by omega) (by omega)
            refine g_bipush hF (by decide +kernel : decode cX5_keysHash 39 = .ok (.bipush (-2), 2)) (by decide) ?_
            refine g_icmp_le hF (tgt := 48) (by decide +kernel : decode cX5_keysHash 41 = .ok (.if_icmp .le 7, 3)) (by decide) (by omega) (by omega) (fun c41 => ?_) (fun c41 => ?_)
            · skip
              refine g_iconst hF (by decide +kernel : decode cX5_keysHash 48 = .ok (.iconst 0, 1)) ?_
              refine g_iadd hF (by decide +kernel : decode cX5_keysHash 49 = .ok (.iadd, 1)) ?_
              refine g_istore_n hF (by decide +kernel : decode cX5_keysHash 50 = .ok (.istore_n 2, 1)) (by decide) ?_
              refine g_iinc hF (by decide +kernel : decode cX5_keysHash 51 = .ok (.iinc 3 1, 3)) rfl (by decide) ?_
              refine g_goto hF (tgt := 25) (by decide +kernel : decode cX5_keysHash 54 = .ok (.goto (-29), 3)) (by decide) ?_
              exact ih (i + 1) _ _ (by omega) (by omega) (by omega) (by omega) (by rw [hc2, sumN_s, if_pos (by omega)])
            · skip
              refine g_iload_n hF (by decide +kernel : decode cX5_keysHash 44 = .ok (.iload_n 3, 1)) rfl ?_
              refine g_goto hF (tgt := 49) (by decide +kernel : decode cX5_keysHash 45 = .ok (.goto 4, 3)) (by decide) ?_
              refine g_iadd hF (by decide +kernel : decode cX5_keysHash 49 = .ok (.iadd, 1)) ?_
              refine g_istore_n hF (by decide +kernel : decode cX5_keysHash 50 = .ok (.istore_n 2, 1)) (by decide) ?_
              refine g_iinc hF (by decide +kernel : decode cX5_keysHash 51 = .ok (.iinc 3 1, 3)) rfl (by decide) ?_
              refine g_goto hF (tgt := 25) (by decide +kernel : decode cX5_keysHash 54 = .ok (.goto (-29), 3)) (by decide) ?_
              exact ih (i + 1) _ _ (by omega) (by omega) (by omega) (by omega) (by rw [hc2, sumN_s, if_neg (by omega), show mx0 ((i : Int) - 1) = k by unfold mx0; rw [if_neg (by omega)]; omega])
      exact loop 257 1 0 0 (by omega) (by omega) (by omega) (by omega) (by rw [sumN_s, sumN_0]; show (0 : Int) = 0 + (if mR m s ((0 : Nat) : Int) = -2 then 0 else mx0 (((0 : Nat) : Int) - 1)); by_cases q : mR m s ((0 : Nat) : Int) = -2; { rw [if_pos q]; rfl }; { rw [if_neg q]; rfl })
    · skip
      exact absurd c16 (by decide)
set_option maxHeartbeats 4000000 in
set_option maxRecDepth 100000 in
theorem n1_X5_keysHash (X : jX) (hX : jxok X) (s : Int) (js : jr s) (m : jM) (h : ¬ (0 ≤ s ∧ s < 8)) : Con X yX5_keysHash cX5_keysHash 4 (some .int) 8 [vR 2 51, vI s] m (fun o m' => o = some (vI 0) ∧ m' = mset m 51 2 1) := by
  refine Con.of hX (by decide) (Nat.le_of_ble_eq_true rfl) (fun F hF hQ => ?_)
  refine g_aload_n hF (by decide +kernel : decode cX5_keysHash 0 = .ok (.aload_n 0, 1)) rfl ?_
  refine g_iload_n hF (by decide +kernel : decode cX5_keysHash 1 = .ok (.iload_n 1, 1)) rfl ?_
  refine g_callS hF lkX5_42 (n_X5_isSlot X hX _ (by omega) (by omega) _) (by decide +kernel : decode cX5_keysHash 2 = .ok (.invokestatic 42, 3)) (by decide) rfl rfl (Nat.le_of_ble_eq_true rfl) (fun v2 m2 h2 => ?_)
  obtain ⟨rfl, e2⟩ := h2
  obtain rfl := e2.symm
  refine g_if_eq hF (tgt := 12) (by decide +kernel : decode cX5_keysHash 5 = .ok (.ifCond .eq 7, 3)) (by decide) (by omega) (fun c5 => ?_) (fun c5 => ?_)
  · skip
    refine g_iconst hF (by decide +kernel : decode cX5_keysHash 12 = .ok (.iconst 1, 1)) ?_
    refine g_callV hF lkX5_53 (n_X5_fails X hX _ (by decide) _) (by decide +kernel : decode cX5_keysHash 13 = .ok (.invokevirtual 53, 3)) (by decide) rfl rfl rfl rfl jok51 (Nat.le_of_ble_eq_true rfl) (fun v13 m13 h13 => ?_)
    obtain ⟨rfl, e13⟩ := h13
    obtain rfl := e13.symm
    refine g_if_eq hF (tgt := 21) (by decide +kernel : decode cX5_keysHash 16 = .ok (.ifCond .eq 5, 3)) (by decide) (by omega) (fun c16 => ?_) (fun c16 => ?_)
    · skip
      exact absurd c16 (by decide)
    · skip
      refine g_iconst hF (by decide +kernel : decode cX5_keysHash 19 = .ok (.iconst 0, 1)) ?_
      refine g_ireturn hF hQ (by decide +kernel : decode cX5_keysHash 20 = .ok (.ireturn, 1)) ?_
      exact ⟨rfl, rfl⟩
  · skip
    exact absurd c5 (by decide)

set_option maxHeartbeats 4000000 in
set_option maxRecDepth 100000 in
theorem c_X5_put (X : jX) (hX : jxok X) (s : Nat) (hs : s < 8) (k v : Int) (hk : num k) (hv : num v) (m : jM) (hI : MI m) : Con X yX5_put cX5_put 5 (some .int) 8 [vR 2 51, vI s, vI k, vI v] m (fun o m' => o = some (vI (tat (mR m s) k)) ∧ MW (mset m 51 2 0) s (fmark (mR m s) k v) m') := by
  refine Con.of hX (by decide) (Nat.le_of_ble_eq_true rfl) (fun F hF hQ => ?_)
  have hr := hI.1 s hs
  have hk2 : -1 ≤ k ∧ k ≤ 255 := hk
  have hv2 : -1 ≤ v ∧ v ≤ 255 := hv
  refine g_aload_n hF (by decide +kernel : decode cX5_put 0 = .ok (.aload_n 0, 1)) rfl ?_
  refine g_aload_n hF (by decide +kernel : decode cX5_put 1 = .ok (.aload_n 0, 1)) rfl ?_
  refine g_iload_n hF (by decide +kernel : decode cX5_put 2 = .ok (.iload_n 1, 1)) rfl ?_
  refine g_iload_n hF (by decide +kernel : decode cX5_put 3 = .ok (.iload_n 2, 1)) rfl ?_
  refine g_iload_n hF (by decide +kernel : decode cX5_put 4 = .ok (.iload_n 3, 1)) rfl ?_
  refine g_iconst hF (by decide +kernel : decode cX5_put 5 = .ok (.iconst 0, 1)) ?_
  refine g_callV hF lkX5_49 (y_X5_no X hX _ (by omega) _ _ _ (by omega) (by omega) (by omega) (by unfold num; omega) _) (by decide +kernel : decode cX5_put 6 = .ok (.invokevirtual 49, 3)) (by decide) rfl rfl rfl rfl jok51 (Nat.le_of_ble_eq_true rfl) (fun v6 m6 h6 => ?_)
  obtain ⟨rfl, e6⟩ := h6
  obtain rfl := e6.symm
  refine g_callV hF lkX5_53 (y_X5_fails X hX _) (by decide +kernel : decode cX5_put 9 = .ok (.invokevirtual 53, 3)) (by decide) rfl rfl rfl rfl jok51 (Nat.le_of_ble_eq_true rfl) (fun v9 m9 h9 => ?_)
  obtain ⟨rfl, e9⟩ := h9
  have S0 : MSm m m9 := by rw [e9]; exact MSm_code m (Or.inl rfl) 0
  have I0 := MI_S hI S0
  have z0 : m9 51 2 = 0 := by rw [e9, mset_at]
  have r0 : ∀ t : Nat, mR m9 t = mR m t := fun t => mR_52 (S0.1 52 (by decide) (by decide) (by decide)) t
  refine g_if_eq hF (tgt := 17) (by decide +kernel : decode cX5_put 12 = .ok (.ifCond .eq 5, 3)) (by decide) (by omega) (fun c12 => ?_) (fun c12 => ?_)
  · skip
    refine g_aload_n hF (by decide +kernel : decode cX5_put 17 = .ok (.aload_n 0, 1)) rfl ?_
    refine g_iload_n hF (by decide +kernel : decode cX5_put 18 = .ok (.iload_n 1, 1)) rfl ?_
    refine g_callV hF lkX5_56 (c_X5_keeps X hX _ (by omega) _ (by assumption)) (by decide +kernel : decode cX5_put 19 = .ok (.invokevirtual 56, 3)) (by decide) rfl rfl rfl rfl jok51 (Nat.le_of_ble_eq_true rfl) (fun v19 m19 h19 => ?_)
    obtain ⟨rfl, k19⟩ := h19
    have I1 := MI_keep hs I0 k19
    have rk : mR m19 s = mR m s := by rw [mR_52 (m_52 k19), r0]
    have cw0 : MW m9 s (mR m s) m19 := by rw [← rk]; exact MW_of k19 (mw_self m19 s).symm
    refine g_aload_n hF (by decide +kernel : decode cX5_put 22 = .ok (.aload_n 0, 1)) rfl ?_
    refine g_iload_n hF (by decide +kernel : decode cX5_put 23 = .ok (.iload_n 1, 1)) rfl ?_
    refine g_iload_n hF (by decide +kernel : decode cX5_put 24 = .ok (.iload_n 2, 1)) rfl ?_
    refine g_callV hF lkX5_60 (c_X5_at X hX _ (by omega) _ (show num _ from ⟨by omega, by omega⟩) _) (by decide +kernel : decode cX5_put 25 = .ok (.invokevirtual 60, 3)) (by decide) rfl rfl rfl rfl jok51 (Nat.le_of_ble_eq_true rfl) (fun v25 m25 h25 => ?_)
    obtain ⟨rfl, e25⟩ := h25
    obtain rfl := e25.symm
    rw [show mR m19 s (k + 1) = tat (mR m s) k by rw [rk, tat_in hk2]]
    have hb := tat_b hr k
    refine g_istore hF (by decide +kernel : decode cX5_put 28 = .ok (.istore 4, 2)) (by decide) ?_
    refine g_aload_n hF (by decide +kernel : decode cX5_put 30 = .ok (.aload_n 0, 1)) rfl ?_
    refine g_iload_n hF (by decide +kernel : decode cX5_put 31 = .ok (.iload_n 1, 1)) rfl ?_
    refine g_iload_n hF (by decide +kernel : decode cX5_put 32 = .ok (.iload_n 2, 1)) rfl ?_
    refine g_iload_n hF (by decide +kernel : decode cX5_put 33 = .ok (.iload_n 3, 1)) rfl ?_
    refine g_callV hF lkX5_64 (c_X5_sets X hX _ (by omega) _ _ (show num _ from ⟨by omega, by omega⟩) _) (by decide +kernel : decode cX5_put 34 = .ok (.invokevirtual 64, 3)) (by decide) rfl rfl rfl rfl jok51 (Nat.le_of_ble_eq_true rfl) (fun v34 m34 h34 => ?_)
    obtain ⟨rfl, e34⟩ := h34
    have cw : MW m9 s (fmark (mR m s) k v) m34 := by rw [← rk]; exact MW_of k19 e34
    refine g_iload hF (by decide +kernel : decode cX5_put 37 = .ok (.iload 4, 2)) rfl ?_
    refine g_ireturn hF hQ (by decide +kernel : decode cX5_put 39 = .ok (.ireturn, 1)) ?_
    exact ⟨rfl, by rw [← e9]; exact cw⟩
  · skip
    exact absurd c12 (by decide)
set_option maxHeartbeats 4000000 in
set_option maxRecDepth 100000 in
theorem n1_X5_put (X : jX) (hX : jxok X) (s : Int) (js : jr s) (k : Int) (jk : jr k) (v : Int) (jv : jr v) (m : jM) (h : ¬ (0 ≤ s ∧ s < 8)) : Con X yX5_put cX5_put 5 (some .int) 8 [vR 2 51, vI s, vI k, vI v] m (fun o m' => o = some (vI 0) ∧ m' = mset m 51 2 1) := by
  refine Con.of hX (by decide) (Nat.le_of_ble_eq_true rfl) (fun F hF hQ => ?_)
  refine g_aload_n hF (by decide +kernel : decode cX5_put 0 = .ok (.aload_n 0, 1)) rfl ?_
  refine g_aload_n hF (by decide +kernel : decode cX5_put 1 = .ok (.aload_n 0, 1)) rfl ?_
  refine g_iload_n hF (by decide +kernel : decode cX5_put 2 = .ok (.iload_n 1, 1)) rfl ?_
  refine g_iload_n hF (by decide +kernel : decode cX5_put 3 = .ok (.iload_n 2, 1)) rfl ?_
  refine g_iload_n hF (by decide +kernel : decode cX5_put 4 = .ok (.iload_n 3, 1)) rfl ?_
  refine g_iconst hF (by decide +kernel : decode cX5_put 5 = .ok (.iconst 0, 1)) ?_
  refine g_callV hF lkX5_49 (n1_X5_no X hX _ (by omega) (by omega) _ _ _ _) (by decide +kernel : decode cX5_put 6 = .ok (.invokevirtual 49, 3)) (by decide) rfl rfl rfl rfl jok51 (Nat.le_of_ble_eq_true rfl) (fun v6 m6 h6 => ?_)
  obtain ⟨rfl, e6⟩ := h6
  obtain rfl := e6.symm
  refine g_callV hF lkX5_53 (n_X5_fails X hX _ (by decide) _) (by decide +kernel : decode cX5_put 9 = .ok (.invokevirtual 53, 3)) (by decide) rfl rfl rfl rfl jok51 (Nat.le_of_ble_eq_true rfl) (fun v9 m9 h9 => ?_)
  obtain ⟨rfl, e9⟩ := h9
  obtain rfl := e9.symm
  refine g_if_eq hF (tgt := 17) (by decide +kernel : decode cX5_put 12 = .ok (.ifCond .eq 5, 3)) (by decide) (by omega) (fun c12 => ?_) (fun c12 => ?_)
  · skip
    exact absurd c12 (by decide)
  · skip
    refine g_iconst hF (by decide +kernel : decode cX5_put 15 = .ok (.iconst 0, 1)) ?_
    refine g_ireturn hF hQ (by decide +kernel : decode cX5_put 16 = .ok (.ireturn, 1)) ?_
    exact ⟨rfl, rfl⟩
set_option maxHeartbeats 4000000 in
set_option maxRecDepth 100000 in
theorem n2_X5_put (X : jX) (hX : jxok X) (s : Nat) (hs : s < 8) (k : Int) (jk : jr k) (v : Int) (jv : jr v) (m : jM) (h : ¬ (num k ∧ num v)) : Con X yX5_put cX5_put 5 (some .int) 8 [vR 2 51, vI s, vI k, vI v] m (fun o m' => o = some (vI 0) ∧ m' = mset m 51 2 2) := by
  refine Con.of hX (by decide) (Nat.le_of_ble_eq_true rfl) (fun F hF hQ => ?_)
  refine g_aload_n hF (by decide +kernel : decode cX5_put 0 = .ok (.aload_n 0, 1)) rfl ?_
  refine g_aload_n hF (by decide +kernel : decode cX5_put 1 = .ok (.aload_n 0, 1)) rfl ?_
  refine g_iload_n hF (by decide +kernel : decode cX5_put 2 = .ok (.iload_n 1, 1)) rfl ?_
  refine g_iload_n hF (by decide +kernel : decode cX5_put 3 = .ok (.iload_n 2, 1)) rfl ?_
  refine g_iload_n hF (by decide +kernel : decode cX5_put 4 = .ok (.iload_n 3, 1)) rfl ?_
  refine g_iconst hF (by decide +kernel : decode cX5_put 5 = .ok (.iconst 0, 1)) ?_
  refine g_callV hF lkX5_49 (n2_X5_no X hX _ (by omega) _ _ _ (by omega) (by omega) (by omega) (fun q => h ⟨q.1, q.2.1⟩) _) (by decide +kernel : decode cX5_put 6 = .ok (.invokevirtual 49, 3)) (by decide) rfl rfl rfl rfl jok51 (Nat.le_of_ble_eq_true rfl) (fun v6 m6 h6 => ?_)
  obtain ⟨rfl, e6⟩ := h6
  obtain rfl := e6.symm
  refine g_callV hF lkX5_53 (n_X5_fails X hX _ (by decide) _) (by decide +kernel : decode cX5_put 9 = .ok (.invokevirtual 53, 3)) (by decide) rfl rfl rfl rfl jok51 (Nat.le_of_ble_eq_true rfl) (fun v9 m9 h9 => ?_)
  obtain ⟨rfl, e9⟩ := h9
  obtain rfl := e9.symm
  refine g_if_eq hF (tgt := 17) (by decide +kernel : decode cX5_put 12 = .ok (.ifCond .eq 5, 3)) (by decide) (by omega) (fun c12 => ?_) (fun c12 => ?_)
  · skip
    exact absurd c12 (by decide)
  · skip
    refine g_iconst hF (by decide +kernel : decode cX5_put 15 = .ok (.iconst 0, 1)) ?_
    refine g_ireturn hF hQ (by decide +kernel : decode cX5_put 16 = .ok (.ireturn, 1)) ?_
    exact ⟨rfl, rfl⟩
set_option maxHeartbeats 4000000 in
set_option maxRecDepth 100000 in
theorem c_X5_putFirst (X : jX) (hX : jxok X) (s : Nat) (hs : s < 8) (k v : Int) (hk : num k) (hv : num v) (m : jM) (hI : MI m) : Con X yX5_putFirst cX5_putFirst 5 (some .int) 8 [vR 2 51, vI s, vI k, vI v] m (fun o m' => o = some (vI (tat (mR m s) k)) ∧ MW (mset m 51 2 0) s (if tat (mR m s) k < 0 then fmark (mR m s) k v else mR m s) m') := by
  refine Con.of hX (by decide) (Nat.le_of_ble_eq_true rfl) (fun F hF hQ => ?_)
  have hr := hI.1 s hs
  have hk2 : -1 ≤ k ∧ k ≤ 255 := hk
  have hv2 : -1 ≤ v ∧ v ≤ 255 := hv
  refine g_aload_n hF (by decide +kernel : decode cX5_putFirst 0 = .ok (.aload_n 0, 1)) rfl ?_
  refine g_aload_n hF (by decide +kernel : decode cX5_putFirst 1 = .ok (.aload_n 0, 1)) rfl ?_
  refine g_iload_n hF (by decide +kernel : decode cX5_putFirst 2 = .ok (.iload_n 1, 1)) rfl ?_
  refine g_iload_n hF (by decide +kernel : decode cX5_putFirst 3 = .ok (.iload_n 2, 1)) rfl ?_
  refine g_iload_n hF (by decide +kernel : decode cX5_putFirst 4 = .ok (.iload_n 3, 1)) rfl ?_
  refine g_iconst hF (by decide +kernel : decode cX5_putFirst 5 = .ok (.iconst 0, 1)) ?_
  refine g_callV hF lkX5_49 (y_X5_no X hX _ (by omega) _ _ _ (by omega) (by omega) (by omega) (by unfold num; omega) _) (by decide +kernel : decode cX5_putFirst 6 = .ok (.invokevirtual 49, 3)) (by decide) rfl rfl rfl rfl jok51 (Nat.le_of_ble_eq_true rfl) (fun v6 m6 h6 => ?_)
  obtain ⟨rfl, e6⟩ := h6
  obtain rfl := e6.symm
  refine g_callV hF lkX5_53 (y_X5_fails X hX _) (by decide +kernel : decode cX5_putFirst 9 = .ok (.invokevirtual 53, 3)) (by decide) rfl rfl rfl rfl jok51 (Nat.le_of_ble_eq_true rfl) (fun v9 m9 h9 => ?_)
  obtain ⟨rfl, e9⟩ := h9
  have S0 : MSm m m9 := by rw [e9]; exact MSm_code m (Or.inl rfl) 0
  have I0 := MI_S hI S0
  have z0 : m9 51 2 = 0 := by rw [e9, mset_at]
  have r0 : ∀ t : Nat, mR m9 t = mR m t := fun t => mR_52 (S0.1 52 (by decide) (by decide) (by decide)) t
  refine g_if_eq hF (tgt := 17) (by decide +kernel : decode cX5_putFirst 12 = .ok (.ifCond .eq 5, 3)) (by decide) (by omega) (fun c12 => ?_) (fun c12 => ?_)
  · skip
    refine g_aload_n hF (by decide +kernel : decode cX5_putFirst 17 = .ok (.aload_n 0, 1)) rfl ?_
    refine g_iload_n hF (by decide +kernel : decode cX5_putFirst 18 = .ok (.iload_n 1, 1)) rfl ?_
    refine g_callV hF lkX5_56 (c_X5_keeps X hX _ (by omega) _ (by assumption)) (by decide +kernel : decode cX5_putFirst 19 = .ok (.invokevirtual 56, 3)) (by decide) rfl rfl rfl rfl jok51 (Nat.le_of_ble_eq_true rfl) (fun v19 m19 h19 => ?_)
    obtain ⟨rfl, k19⟩ := h19
    have I1 := MI_keep hs I0 k19
    have rk : mR m19 s = mR m s := by rw [mR_52 (m_52 k19), r0]
    have cw0 : MW m9 s (mR m s) m19 := by rw [← rk]; exact MW_of k19 (mw_self m19 s).symm
    refine g_aload_n hF (by decide +kernel : decode cX5_putFirst 22 = .ok (.aload_n 0, 1)) rfl ?_
    refine g_iload_n hF (by decide +kernel : decode cX5_putFirst 23 = .ok (.iload_n 1, 1)) rfl ?_
    refine g_iload_n hF (by decide +kernel : decode cX5_putFirst 24 = .ok (.iload_n 2, 1)) rfl ?_
    refine g_callV hF lkX5_60 (c_X5_at X hX _ (by omega) _ (show num _ from ⟨by omega, by omega⟩) _) (by decide +kernel : decode cX5_putFirst 25 = .ok (.invokevirtual 60, 3)) (by decide) rfl rfl rfl rfl jok51 (Nat.le_of_ble_eq_true rfl) (fun v25 m25 h25 => ?_)
    obtain ⟨rfl, e25⟩ := h25
    obtain rfl := e25.symm
    rw [show mR m19 s (k + 1) = tat (mR m s) k by rw [rk, tat_in hk2]]
    have hb := tat_b hr k
    refine g_istore hF (by decide +kernel : decode cX5_putFirst 28 = .ok (.istore 4, 2)) (by decide) ?_
    refine g_iload hF (by decide +kernel : decode cX5_putFirst 30 = .ok (.iload 4, 2)) rfl ?_
    refine g_if_ge hF (tgt := 42) (by decide +kernel : decode cX5_putFirst 32 = .ok (.ifCond .ge 10, 3)) (by decide) (by omega) (fun c32 => ?_) (fun c32 => ?_)
    · skip
      refine g_iload hF (by decide +kernel : decode cX5_putFirst 42 = .ok (.iload 4, 2)) rfl ?_
      refine g_ireturn hF hQ (by decide +kernel : decode cX5_putFirst 44 = .ok (.ireturn, 1)) ?_
      exact ⟨rfl, by rw [← e9]; exact MW_if (fun q => absurd q (by omega)) (fun _ => cw0)⟩
    · skip
      refine g_aload_n hF (by decide +kernel : decode cX5_putFirst 35 = .ok (.aload_n 0, 1)) rfl ?_
      refine g_iload_n hF (by decide +kernel : decode cX5_putFirst 36 = .ok (.iload_n 1, 1)) rfl ?_
      refine g_iload_n hF (by decide +kernel : decode cX5_putFirst 37 = .ok (.iload_n 2, 1)) rfl ?_
      refine g_iload_n hF (by decide +kernel : decode cX5_putFirst 38 = .ok (.iload_n 3, 1)) rfl ?_
      refine g_callV hF lkX5_64 (c_X5_sets X hX _ (by omega) _ _ (show num _ from ⟨by omega, by omega⟩) _) (by decide +kernel : decode cX5_putFirst 39 = .ok (.invokevirtual 64, 3)) (by decide) rfl rfl rfl rfl jok51 (Nat.le_of_ble_eq_true rfl) (fun v39 m39 h39 => ?_)
      obtain ⟨rfl, e39⟩ := h39
      have cw : MW m9 s (fmark (mR m s) k v) m39 := by rw [← rk]; exact MW_of k19 e39
      refine g_iload hF (by decide +kernel : decode cX5_putFirst 42 = .ok (.iload 4, 2)) rfl ?_
      refine g_ireturn hF hQ (by decide +kernel : decode cX5_putFirst 44 = .ok (.ireturn, 1)) ?_
      exact ⟨rfl, by rw [← e9]; exact MW_if (fun _ => cw) (fun q => absurd q (by omega))⟩
  · skip
    exact absurd c12 (by decide)
set_option maxHeartbeats 4000000 in
set_option maxRecDepth 100000 in
theorem n1_X5_putFirst (X : jX) (hX : jxok X) (s : Int) (js : jr s) (k : Int) (jk : jr k) (v : Int) (jv : jr v) (m : jM) (h : ¬ (0 ≤ s ∧ s < 8)) : Con X yX5_putFirst cX5_putFirst 5 (some .int) 8 [vR 2 51, vI s, vI k, vI v] m (fun o m' => o = some (vI 0) ∧ m' = mset m 51 2 1) := by
  refine Con.of hX (by decide) (Nat.le_of_ble_eq_true rfl) (fun F hF hQ => ?_)
  refine g_aload_n hF (by decide +kernel : decode cX5_putFirst 0 = .ok (.aload_n 0, 1)) rfl ?_
  refine g_aload_n hF (by decide +kernel : decode cX5_putFirst 1 = .ok (.aload_n 0, 1)) rfl ?_
  refine g_iload_n hF (by decide +kernel : decode cX5_putFirst 2 = .ok (.iload_n 1, 1)) rfl ?_
  refine g_iload_n hF (by decide +kernel : decode cX5_putFirst 3 = .ok (.iload_n 2, 1)) rfl ?_
  refine g_iload_n hF (by decide +kernel : decode cX5_putFirst 4 = .ok (.iload_n 3, 1)) rfl ?_
  refine g_iconst hF (by decide +kernel : decode cX5_putFirst 5 = .ok (.iconst 0, 1)) ?_
  refine g_callV hF lkX5_49 (n1_X5_no X hX _ (by omega) (by omega) _ _ _ _) (by decide +kernel : decode cX5_putFirst 6 = .ok (.invokevirtual 49, 3)) (by decide) rfl rfl rfl rfl jok51 (Nat.le_of_ble_eq_true rfl) (fun v6 m6 h6 => ?_)
  obtain ⟨rfl, e6⟩ := h6
  obtain rfl := e6.symm
  refine g_callV hF lkX5_53 (n_X5_fails X hX _ (by decide) _) (by decide +kernel : decode cX5_putFirst 9 = .ok (.invokevirtual 53, 3)) (by decide) rfl rfl rfl rfl jok51 (Nat.le_of_ble_eq_true rfl) (fun v9 m9 h9 => ?_)
  obtain ⟨rfl, e9⟩ := h9
  obtain rfl := e9.symm
  refine g_if_eq hF (tgt := 17) (by decide +kernel : decode cX5_putFirst 12 = .ok (.ifCond .eq 5, 3)) (by decide) (by omega) (fun c12 => ?_) (fun c12 => ?_)
  · skip
    exact absurd c12 (by decide)
  · skip
    refine g_iconst hF (by decide +kernel : decode cX5_putFirst 15 = .ok (.iconst 0, 1)) ?_
    refine g_ireturn hF hQ (by decide +kernel : decode cX5_putFirst 16 = .ok (.ireturn, 1)) ?_
    exact ⟨rfl, rfl⟩
set_option maxHeartbeats 4000000 in
set_option maxRecDepth 100000 in
theorem n2_X5_putFirst (X : jX) (hX : jxok X) (s : Nat) (hs : s < 8) (k : Int) (jk : jr k) (v : Int) (jv : jr v) (m : jM) (h : ¬ (num k ∧ num v)) : Con X yX5_putFirst cX5_putFirst 5 (some .int) 8 [vR 2 51, vI s, vI k, vI v] m (fun o m' => o = some (vI 0) ∧ m' = mset m 51 2 2) := by
  refine Con.of hX (by decide) (Nat.le_of_ble_eq_true rfl) (fun F hF hQ => ?_)
  refine g_aload_n hF (by decide +kernel : decode cX5_putFirst 0 = .ok (.aload_n 0, 1)) rfl ?_
  refine g_aload_n hF (by decide +kernel : decode cX5_putFirst 1 = .ok (.aload_n 0, 1)) rfl ?_
  refine g_iload_n hF (by decide +kernel : decode cX5_putFirst 2 = .ok (.iload_n 1, 1)) rfl ?_
  refine g_iload_n hF (by decide +kernel : decode cX5_putFirst 3 = .ok (.iload_n 2, 1)) rfl ?_
  refine g_iload_n hF (by decide +kernel : decode cX5_putFirst 4 = .ok (.iload_n 3, 1)) rfl ?_
  refine g_iconst hF (by decide +kernel : decode cX5_putFirst 5 = .ok (.iconst 0, 1)) ?_
  refine g_callV hF lkX5_49 (n2_X5_no X hX _ (by omega) _ _ _ (by omega) (by omega) (by omega) (fun q => h ⟨q.1, q.2.1⟩) _) (by decide +kernel : decode cX5_putFirst 6 = .ok (.invokevirtual 49, 3)) (by decide) rfl rfl rfl rfl jok51 (Nat.le_of_ble_eq_true rfl) (fun v6 m6 h6 => ?_)
  obtain ⟨rfl, e6⟩ := h6
  obtain rfl := e6.symm
  refine g_callV hF lkX5_53 (n_X5_fails X hX _ (by decide) _) (by decide +kernel : decode cX5_putFirst 9 = .ok (.invokevirtual 53, 3)) (by decide) rfl rfl rfl rfl jok51 (Nat.le_of_ble_eq_true rfl) (fun v9 m9 h9 => ?_)
  obtain ⟨rfl, e9⟩ := h9
  obtain rfl := e9.symm
  refine g_if_eq hF (tgt := 17) (by decide +kernel : decode cX5_putFirst 12 = .ok (.ifCond .eq 5, 3)) (by decide) (by omega) (fun c12 => ?_) (fun c12 => ?_)
  · skip
    exact absurd c12 (by decide)
  · skip
    refine g_iconst hF (by decide +kernel : decode cX5_putFirst 15 = .ok (.iconst 0, 1)) ?_
    refine g_ireturn hF hQ (by decide +kernel : decode cX5_putFirst 16 = .ok (.ireturn, 1)) ?_
    exact ⟨rfl, rfl⟩
set_option maxHeartbeats 4000000 in
set_option maxRecDepth 100000 in
theorem c_X5_change (X : jX) (hX : jxok X) (s : Nat) (hs : s < 8) (k v : Int) (hk : num k) (hv : num v) (m : jM) (hI : MI m) : Con X yX5_change cX5_change 5 (some .int) 8 [vR 2 51, vI s, vI k, vI v] m (fun o m' => o = some (vI (tat (mR m s) k)) ∧ MW (mset m 51 2 0) s (if tat (mR m s) k = -2 then mR m s else fmark (mR m s) k v) m') := by
  refine Con.of hX (by decide) (Nat.le_of_ble_eq_true rfl) (fun F hF hQ => ?_)
  have hr := hI.1 s hs
  have hk2 : -1 ≤ k ∧ k ≤ 255 := hk
  have hv2 : -1 ≤ v ∧ v ≤ 255 := hv
  refine g_aload_n hF (by decide +kernel : decode cX5_change 0 = .ok (.aload_n 0, 1)) rfl ?_
  refine g_aload_n hF (by decide +kernel : decode cX5_change 1 = .ok (.aload_n 0, 1)) rfl ?_
  refine g_iload_n hF (by decide +kernel : decode cX5_change 2 = .ok (.iload_n 1, 1)) rfl ?_
  refine g_iload_n hF (by decide +kernel : decode cX5_change 3 = .ok (.iload_n 2, 1)) rfl ?_
  refine g_iload_n hF (by decide +kernel : decode cX5_change 4 = .ok (.iload_n 3, 1)) rfl ?_
  refine g_iconst hF (by decide +kernel : decode cX5_change 5 = .ok (.iconst 0, 1)) ?_
  refine g_callV hF lkX5_49 (y_X5_no X hX _ (by omega) _ _ _ (by omega) (by omega) (by omega) (by unfold num; omega) _) (by decide +kernel : decode cX5_change 6 = .ok (.invokevirtual 49, 3)) (by decide) rfl rfl rfl rfl jok51 (Nat.le_of_ble_eq_true rfl) (fun v6 m6 h6 => ?_)
  obtain ⟨rfl, e6⟩ := h6
  obtain rfl := e6.symm
  refine g_callV hF lkX5_53 (y_X5_fails X hX _) (by decide +kernel : decode cX5_change 9 = .ok (.invokevirtual 53, 3)) (by decide) rfl rfl rfl rfl jok51 (Nat.le_of_ble_eq_true rfl) (fun v9 m9 h9 => ?_)
  obtain ⟨rfl, e9⟩ := h9
  have S0 : MSm m m9 := by rw [e9]; exact MSm_code m (Or.inl rfl) 0
  have I0 := MI_S hI S0
  have z0 : m9 51 2 = 0 := by rw [e9, mset_at]
  have r0 : ∀ t : Nat, mR m9 t = mR m t := fun t => mR_52 (S0.1 52 (by decide) (by decide) (by decide)) t
  refine g_if_eq hF (tgt := 17) (by decide +kernel : decode cX5_change 12 = .ok (.ifCond .eq 5, 3)) (by decide) (by omega) (fun c12 => ?_) (fun c12 => ?_)
  · skip
    refine g_aload_n hF (by decide +kernel : decode cX5_change 17 = .ok (.aload_n 0, 1)) rfl ?_
    refine g_iload_n hF (by decide +kernel : decode cX5_change 18 = .ok (.iload_n 1, 1)) rfl ?_
    refine g_callV hF lkX5_56 (c_X5_keeps X hX _ (by omega) _ (by assumption)) (by decide +kernel : decode cX5_change 19 = .ok (.invokevirtual 56, 3)) (by decide) rfl rfl rfl rfl jok51 (Nat.le_of_ble_eq_true rfl) (fun v19 m19 h19 => ?_)
    obtain ⟨rfl, k19⟩ := h19
    have I1 := MI_keep hs I0 k19
    have rk : mR m19 s = mR m s := by rw [mR_52 (m_52 k19), r0]
    have cw0 : MW m9 s (mR m s) m19 := by rw [← rk]; exact MW_of k19 (mw_self m19 s).symm
    refine g_aload_n hF (by decide +kernel : decode cX5_change 22 = .ok (.aload_n 0, 1)) rfl ?_
    refine g_iload_n hF (by decide +kernel : decode cX5_change 23 = .ok (.iload_n 1, 1)) rfl ?_
    refine g_iload_n hF (by decide +kernel : decode cX5_change 24 = .ok (.iload_n 2, 1)) rfl ?_
    refine g_callV hF lkX5_60 (c_X5_at X hX _ (by omega) _ (show num _ from ⟨by omega, by omega⟩) _) (by decide +kernel : decode cX5_change 25 = .ok (.invokevirtual 60, 3)) (by decide) rfl rfl rfl rfl jok51 (Nat.le_of_ble_eq_true rfl) (fun v25 m25 h25 => ?_)
    obtain ⟨rfl, e25⟩ := h25
    obtain rfl := e25.symm
    rw [show mR m19 s (k + 1) = tat (mR m s) k by rw [rk, tat_in hk2]]
    have hb := tat_b hr k
    refine g_istore hF (by decide +kernel : decode cX5_change 28 = .ok (.istore 4, 2)) (by decide) ?_
    refine g_iload hF (by decide +kernel : decode cX5_change 30 = .ok (.iload 4, 2)) rfl ?_
    refine g_bipush hF (by decide +kernel : decode cX5_change 32 = .ok (.bipush (-2), 2)) (by decide) ?_
    refine g_icmp_le hF (tgt := 44) (by decide +kernel : decode cX5_change 34 = .ok (.if_icmp .le 10, 3)) (by decide) (by omega) (by omega) (fun c34 => ?_) (fun c34 => ?_)
    · skip
      refine g_iload hF (by decide +kernel : decode cX5_change 44 = .ok (.iload 4, 2)) rfl ?_
      refine g_ireturn hF hQ (by decide +kernel : decode cX5_change 46 = .ok (.ireturn, 1)) ?_
      exact ⟨rfl, by rw [← e9]; exact MW_if (fun _ => cw0) (fun q => absurd q (by omega))⟩
    · skip
      refine g_aload_n hF (by decide +kernel : decode cX5_change 37 = .ok (.aload_n 0, 1)) rfl ?_
      refine g_iload_n hF (by decide +kernel : decode cX5_change 38 = .ok (.iload_n 1, 1)) rfl ?_
      refine g_iload_n hF (by decide +kernel : decode cX5_change 39 = .ok (.iload_n 2, 1)) rfl ?_
      refine g_iload_n hF (by decide +kernel : decode cX5_change 40 = .ok (.iload_n 3, 1)) rfl ?_
      refine g_callV hF lkX5_64 (c_X5_sets X hX _ (by omega) _ _ (show num _ from ⟨by omega, by omega⟩) _) (by decide +kernel : decode cX5_change 41 = .ok (.invokevirtual 64, 3)) (by decide) rfl rfl rfl rfl jok51 (Nat.le_of_ble_eq_true rfl) (fun v41 m41 h41 => ?_)
      obtain ⟨rfl, e41⟩ := h41
      have cw : MW m9 s (fmark (mR m s) k v) m41 := by rw [← rk]; exact MW_of k19 e41
      refine g_iload hF (by decide +kernel : decode cX5_change 44 = .ok (.iload 4, 2)) rfl ?_
      refine g_ireturn hF hQ (by decide +kernel : decode cX5_change 46 = .ok (.ireturn, 1)) ?_
      exact ⟨rfl, by rw [← e9]; exact MW_if (fun q => absurd q (by omega)) (fun _ => cw)⟩
  · skip
    exact absurd c12 (by decide)
set_option maxHeartbeats 4000000 in
set_option maxRecDepth 100000 in
theorem n1_X5_change (X : jX) (hX : jxok X) (s : Int) (js : jr s) (k : Int) (jk : jr k) (v : Int) (jv : jr v) (m : jM) (h : ¬ (0 ≤ s ∧ s < 8)) : Con X yX5_change cX5_change 5 (some .int) 8 [vR 2 51, vI s, vI k, vI v] m (fun o m' => o = some (vI 0) ∧ m' = mset m 51 2 1) := by
  refine Con.of hX (by decide) (Nat.le_of_ble_eq_true rfl) (fun F hF hQ => ?_)
  refine g_aload_n hF (by decide +kernel : decode cX5_change 0 = .ok (.aload_n 0, 1)) rfl ?_
  refine g_aload_n hF (by decide +kernel : decode cX5_change 1 = .ok (.aload_n 0, 1)) rfl ?_
  refine g_iload_n hF (by decide +kernel : decode cX5_change 2 = .ok (.iload_n 1, 1)) rfl ?_
  refine g_iload_n hF (by decide +kernel : decode cX5_change 3 = .ok (.iload_n 2, 1)) rfl ?_
  refine g_iload_n hF (by decide +kernel : decode cX5_change 4 = .ok (.iload_n 3, 1)) rfl ?_
  refine g_iconst hF (by decide +kernel : decode cX5_change 5 = .ok (.iconst 0, 1)) ?_
  refine g_callV hF lkX5_49 (n1_X5_no X hX _ (by omega) (by omega) _ _ _ _) (by decide +kernel : decode cX5_change 6 = .ok (.invokevirtual 49, 3)) (by decide) rfl rfl rfl rfl jok51 (Nat.le_of_ble_eq_true rfl) (fun v6 m6 h6 => ?_)
  obtain ⟨rfl, e6⟩ := h6
  obtain rfl := e6.symm
  refine g_callV hF lkX5_53 (n_X5_fails X hX _ (by decide) _) (by decide +kernel : decode cX5_change 9 = .ok (.invokevirtual 53, 3)) (by decide) rfl rfl rfl rfl jok51 (Nat.le_of_ble_eq_true rfl) (fun v9 m9 h9 => ?_)
  obtain ⟨rfl, e9⟩ := h9
  obtain rfl := e9.symm
  refine g_if_eq hF (tgt := 17) (by decide +kernel : decode cX5_change 12 = .ok (.ifCond .eq 5, 3)) (by decide) (by omega) (fun c12 => ?_) (fun c12 => ?_)
  · skip
    exact absurd c12 (by decide)
  · skip
    refine g_iconst hF (by decide +kernel : decode cX5_change 15 = .ok (.iconst 0, 1)) ?_
    refine g_ireturn hF hQ (by decide +kernel : decode cX5_change 16 = .ok (.ireturn, 1)) ?_
    exact ⟨rfl, rfl⟩
set_option maxHeartbeats 4000000 in
set_option maxRecDepth 100000 in
theorem n2_X5_change (X : jX) (hX : jxok X) (s : Nat) (hs : s < 8) (k : Int) (jk : jr k) (v : Int) (jv : jr v) (m : jM) (h : ¬ (num k ∧ num v)) : Con X yX5_change cX5_change 5 (some .int) 8 [vR 2 51, vI s, vI k, vI v] m (fun o m' => o = some (vI 0) ∧ m' = mset m 51 2 2) := by
  refine Con.of hX (by decide) (Nat.le_of_ble_eq_true rfl) (fun F hF hQ => ?_)
  refine g_aload_n hF (by decide +kernel : decode cX5_change 0 = .ok (.aload_n 0, 1)) rfl ?_
  refine g_aload_n hF (by decide +kernel : decode cX5_change 1 = .ok (.aload_n 0, 1)) rfl ?_
  refine g_iload_n hF (by decide +kernel : decode cX5_change 2 = .ok (.iload_n 1, 1)) rfl ?_
  refine g_iload_n hF (by decide +kernel : decode cX5_change 3 = .ok (.iload_n 2, 1)) rfl ?_
  refine g_iload_n hF (by decide +kernel : decode cX5_change 4 = .ok (.iload_n 3, 1)) rfl ?_
  refine g_iconst hF (by decide +kernel : decode cX5_change 5 = .ok (.iconst 0, 1)) ?_
  refine g_callV hF lkX5_49 (n2_X5_no X hX _ (by omega) _ _ _ (by omega) (by omega) (by omega) (fun q => h ⟨q.1, q.2.1⟩) _) (by decide +kernel : decode cX5_change 6 = .ok (.invokevirtual 49, 3)) (by decide) rfl rfl rfl rfl jok51 (Nat.le_of_ble_eq_true rfl) (fun v6 m6 h6 => ?_)
  obtain ⟨rfl, e6⟩ := h6
  obtain rfl := e6.symm
  refine g_callV hF lkX5_53 (n_X5_fails X hX _ (by decide) _) (by decide +kernel : decode cX5_change 9 = .ok (.invokevirtual 53, 3)) (by decide) rfl rfl rfl rfl jok51 (Nat.le_of_ble_eq_true rfl) (fun v9 m9 h9 => ?_)
  obtain ⟨rfl, e9⟩ := h9
  obtain rfl := e9.symm
  refine g_if_eq hF (tgt := 17) (by decide +kernel : decode cX5_change 12 = .ok (.ifCond .eq 5, 3)) (by decide) (by omega) (fun c12 => ?_) (fun c12 => ?_)
  · skip
    exact absurd c12 (by decide)
  · skip
    refine g_iconst hF (by decide +kernel : decode cX5_change 15 = .ok (.iconst 0, 1)) ?_
    refine g_ireturn hF hQ (by decide +kernel : decode cX5_change 16 = .ok (.ireturn, 1)) ?_
    exact ⟨rfl, rfl⟩
set_option maxHeartbeats 4000000 in
set_option maxRecDepth 100000 in
theorem c_X5_changeIf (X : jX) (hX : jxok X) (s : Nat) (hs : s < 8) (k w v : Int) (hk : num k) (hw : num w) (hv : num v) (m : jM) (hI : MI m) : Con X yX5_changeIf cX5_changeIf 6 (some .boolean) 8 [vR 2 51, vI s, vI k, vI w, vI v] m (fun o m' => o = some (vI (if tat (mR m s) k = w then 1 else 0)) ∧ MW (mset m 51 2 0) s (if tat (mR m s) k = w then fmark (mR m s) k v else mR m s) m') := by
  refine Con.of hX (by decide) (Nat.le_of_ble_eq_true rfl) (fun F hF hQ => ?_)
  have hr := hI.1 s hs
  have hk2 : -1 ≤ k ∧ k ≤ 255 := hk
  have hv2 : -1 ≤ v ∧ v ≤ 255 := hv
  have hw2 : -1 ≤ w ∧ w ≤ 255 := hw
  refine g_aload_n hF (by decide +kernel : decode cX5_changeIf 0 = .ok (.aload_n 0, 1)) rfl ?_
  refine g_aload_n hF (by decide +kernel : decode cX5_changeIf 1 = .ok (.aload_n 0, 1)) rfl ?_
  refine g_iload_n hF (by decide +kernel : decode cX5_changeIf 2 = .ok (.iload_n 1, 1)) rfl ?_
  refine g_iload_n hF (by decide +kernel : decode cX5_changeIf 3 = .ok (.iload_n 2, 1)) rfl ?_
  refine g_iload_n hF (by decide +kernel : decode cX5_changeIf 4 = .ok (.iload_n 3, 1)) rfl ?_
  refine g_iload hF (by decide +kernel : decode cX5_changeIf 5 = .ok (.iload 4, 2)) rfl ?_
  refine g_callV hF lkX5_49 (y_X5_no X hX _ (by omega) _ _ _ (by omega) (by omega) (by omega) (by unfold num; omega) _) (by decide +kernel : decode cX5_changeIf 7 = .ok (.invokevirtual 49, 3)) (by decide) rfl rfl rfl rfl jok51 (Nat.le_of_ble_eq_true rfl) (fun v7 m7 h7 => ?_)
  obtain ⟨rfl, e7⟩ := h7
  obtain rfl := e7.symm
  refine g_callV hF lkX5_53 (y_X5_fails X hX _) (by decide +kernel : decode cX5_changeIf 10 = .ok (.invokevirtual 53, 3)) (by decide) rfl rfl rfl rfl jok51 (Nat.le_of_ble_eq_true rfl) (fun v10 m10 h10 => ?_)
  obtain ⟨rfl, e10⟩ := h10
  have S0 : MSm m m10 := by rw [e10]; exact MSm_code m (Or.inl rfl) 0
  have I0 := MI_S hI S0
  have z0 : m10 51 2 = 0 := by rw [e10, mset_at]
  have r0 : ∀ t : Nat, mR m10 t = mR m t := fun t => mR_52 (S0.1 52 (by decide) (by decide) (by decide)) t
  refine g_if_eq hF (tgt := 18) (by decide +kernel : decode cX5_changeIf 13 = .ok (.ifCond .eq 5, 3)) (by decide) (by omega) (fun c13 => ?_) (fun c13 => ?_)
  · skip
    refine g_aload_n hF (by decide +kernel : decode cX5_changeIf 18 = .ok (.aload_n 0, 1)) rfl ?_
    refine g_iload_n hF (by decide +kernel : decode cX5_changeIf 19 = .ok (.iload_n 1, 1)) rfl ?_
    refine g_callV hF lkX5_56 (c_X5_keeps X hX _ (by omega) _ (by assumption)) (by decide +kernel : decode cX5_changeIf 20 = .ok (.invokevirtual 56, 3)) (by decide) rfl rfl rfl rfl jok51 (Nat.le_of_ble_eq_true rfl) (fun v20 m20 h20 => ?_)
    obtain ⟨rfl, k20⟩ := h20
    have I1 := MI_keep hs I0 k20
    have rk : mR m20 s = mR m s := by rw [mR_52 (m_52 k20), r0]
    have cw0 : MW m10 s (mR m s) m20 := by rw [← rk]; exact MW_of k20 (mw_self m20 s).symm
    refine g_aload_n hF (by decide +kernel : decode cX5_changeIf 23 = .ok (.aload_n 0, 1)) rfl ?_
    refine g_iload_n hF (by decide +kernel : decode cX5_changeIf 24 = .ok (.iload_n 1, 1)) rfl ?_
    refine g_iload_n hF (by decide +kernel : decode cX5_changeIf 25 = .ok (.iload_n 2, 1)) rfl ?_
    refine g_callV hF lkX5_60 (c_X5_at X hX _ (by omega) _ (show num _ from ⟨by omega, by omega⟩) _) (by decide +kernel : decode cX5_changeIf 26 = .ok (.invokevirtual 60, 3)) (by decide) rfl rfl rfl rfl jok51 (Nat.le_of_ble_eq_true rfl) (fun v26 m26 h26 => ?_)
    obtain ⟨rfl, e26⟩ := h26
    obtain rfl := e26.symm
    rw [show mR m20 s (k + 1) = tat (mR m s) k by rw [rk, tat_in hk2]]
    have hb := tat_b hr k
    refine g_iload_n hF (by decide +kernel : decode cX5_changeIf 29 = .ok (.iload_n 3, 1)) rfl ?_
    refine g_icmp_ne hF (tgt := 37) (by decide +kernel : decode cX5_changeIf 30 = .ok (.if_icmp .ne 7, 3)) (by decide) (by omega) (by omega) (fun c30 => ?_) (fun c30 => ?_)
    · skip
      refine g_iconst hF (by decide +kernel : decode cX5_changeIf 37 = .ok (.iconst 0, 1)) ?_
      refine g_istore hF (by decide +kernel : decode cX5_changeIf 38 = .ok (.istore 5, 2)) (by decide) ?_
      refine g_iload hF (by decide +kernel : decode cX5_changeIf 40 = .ok (.iload 5, 2)) rfl ?_
      refine g_if_eq hF (tgt := 53) (by decide +kernel : decode cX5_changeIf 42 = .ok (.ifCond .eq 11, 3)) (by decide) (by omega) (fun c42 => ?_) (fun c42 => ?_)
      · skip
        refine g_iload hF (by decide +kernel : decode cX5_changeIf 53 = .ok (.iload 5, 2)) rfl ?_
        refine g_zreturn hF hQ (by decide +kernel : decode cX5_changeIf 55 = .ok (.ireturn, 1)) (by first | exact Or.inl rfl | exact Or.inr rfl | omega) ?_
        exact ⟨by rw [if_neg c30], by rw [← e10]; exact MW_if (fun q => absurd q c30) (fun _ => cw0)⟩
      · skip
        exact absurd c42 (by decide)
    · skip
      refine g_iconst hF (by decide +kernel : decode cX5_changeIf 33 = .ok (.iconst 1, 1)) ?_
      refine g_goto hF (tgt := 38) (by decide +kernel : decode cX5_changeIf 34 = .ok (.goto 4, 3)) (by decide) ?_
      refine g_istore hF (by decide +kernel : decode cX5_changeIf 38 = .ok (.istore 5, 2)) (by decide) ?_
      refine g_iload hF (by decide +kernel : decode cX5_changeIf 40 = .ok (.iload 5, 2)) rfl ?_
      refine g_if_eq hF (tgt := 53) (by decide +kernel : decode cX5_changeIf 42 = .ok (.ifCond .eq 11, 3)) (by decide) (by omega) (fun c42 => ?_) (fun c42 => ?_)
      · skip
        exact absurd c42 (by decide)
      · skip
        refine g_aload_n hF (by decide +kernel : decode cX5_changeIf 45 = .ok (.aload_n 0, 1)) rfl ?_
        refine g_iload_n hF (by decide +kernel : decode cX5_changeIf 46 = .ok (.iload_n 1, 1)) rfl ?_
        refine g_iload_n hF (by decide +kernel : decode cX5_changeIf 47 = .ok (.iload_n 2, 1)) rfl ?_
        refine g_iload hF (by decide +kernel : decode cX5_changeIf 48 = .ok (.iload 4, 2)) rfl ?_
        refine g_callV hF lkX5_64 (c_X5_sets X hX _ (by omega) _ _ (show num _ from ⟨by omega, by omega⟩) _) (by decide +kernel : decode cX5_changeIf 50 = .ok (.invokevirtual 64, 3)) (by decide) rfl rfl rfl rfl jok51 (Nat.le_of_ble_eq_true rfl) (fun v50 m50 h50 => ?_)
        obtain ⟨rfl, e50⟩ := h50
        have cw : MW m10 s (fmark (mR m s) k v) m50 := by rw [← rk]; exact MW_of k20 e50
        refine g_iload hF (by decide +kernel : decode cX5_changeIf 53 = .ok (.iload 5, 2)) rfl ?_
        refine g_zreturn hF hQ (by decide +kernel : decode cX5_changeIf 55 = .ok (.ireturn, 1)) (by first | exact Or.inl rfl | exact Or.inr rfl | omega) ?_
        exact ⟨by rw [if_pos c30], by rw [← e10]; exact MW_if (fun _ => cw) (fun q => absurd c30 q)⟩
  · skip
    exact absurd c13 (by decide)
set_option maxHeartbeats 4000000 in
set_option maxRecDepth 100000 in
theorem n1_X5_changeIf (X : jX) (hX : jxok X) (s : Int) (js : jr s) (k : Int) (jk : jr k) (w : Int) (jw : jr w) (v : Int) (jv : jr v) (m : jM) (h : ¬ (0 ≤ s ∧ s < 8)) : Con X yX5_changeIf cX5_changeIf 6 (some .boolean) 8 [vR 2 51, vI s, vI k, vI w, vI v] m (fun o m' => o = some (vI 0) ∧ m' = mset m 51 2 1) := by
  refine Con.of hX (by decide) (Nat.le_of_ble_eq_true rfl) (fun F hF hQ => ?_)
  refine g_aload_n hF (by decide +kernel : decode cX5_changeIf 0 = .ok (.aload_n 0, 1)) rfl ?_
  refine g_aload_n hF (by decide +kernel : decode cX5_changeIf 1 = .ok (.aload_n 0, 1)) rfl ?_
  refine g_iload_n hF (by decide +kernel : decode cX5_changeIf 2 = .ok (.iload_n 1, 1)) rfl ?_
  refine g_iload_n hF (by decide +kernel : decode cX5_changeIf 3 = .ok (.iload_n 2, 1)) rfl ?_
  refine g_iload_n hF (by decide +kernel : decode cX5_changeIf 4 = .ok (.iload_n 3, 1)) rfl ?_
  refine g_iload hF (by decide +kernel : decode cX5_changeIf 5 = .ok (.iload 4, 2)) rfl ?_
  refine g_callV hF lkX5_49 (n1_X5_no X hX _ (by omega) (by omega) _ _ _ _) (by decide +kernel : decode cX5_changeIf 7 = .ok (.invokevirtual 49, 3)) (by decide) rfl rfl rfl rfl jok51 (Nat.le_of_ble_eq_true rfl) (fun v7 m7 h7 => ?_)
  obtain ⟨rfl, e7⟩ := h7
  obtain rfl := e7.symm
  refine g_callV hF lkX5_53 (n_X5_fails X hX _ (by decide) _) (by decide +kernel : decode cX5_changeIf 10 = .ok (.invokevirtual 53, 3)) (by decide) rfl rfl rfl rfl jok51 (Nat.le_of_ble_eq_true rfl) (fun v10 m10 h10 => ?_)
  obtain ⟨rfl, e10⟩ := h10
  obtain rfl := e10.symm
  refine g_if_eq hF (tgt := 18) (by decide +kernel : decode cX5_changeIf 13 = .ok (.ifCond .eq 5, 3)) (by decide) (by omega) (fun c13 => ?_) (fun c13 => ?_)
  · skip
    exact absurd c13 (by decide)
  · skip
    refine g_iconst hF (by decide +kernel : decode cX5_changeIf 16 = .ok (.iconst 0, 1)) ?_
    refine g_zreturn hF hQ (by decide +kernel : decode cX5_changeIf 17 = .ok (.ireturn, 1)) (by first | exact Or.inl rfl | exact Or.inr rfl | omega) ?_
    exact ⟨rfl, rfl⟩
set_option maxHeartbeats 4000000 in
set_option maxRecDepth 100000 in
theorem n2_X5_changeIf (X : jX) (hX : jxok X) (s : Nat) (hs : s < 8) (k : Int) (jk : jr k) (w : Int) (jw : jr w) (v : Int) (jv : jr v) (m : jM) (h : ¬ (num k ∧ num w ∧ num v)) : Con X yX5_changeIf cX5_changeIf 6 (some .boolean) 8 [vR 2 51, vI s, vI k, vI w, vI v] m (fun o m' => o = some (vI 0) ∧ m' = mset m 51 2 2) := by
  refine Con.of hX (by decide) (Nat.le_of_ble_eq_true rfl) (fun F hF hQ => ?_)
  refine g_aload_n hF (by decide +kernel : decode cX5_changeIf 0 = .ok (.aload_n 0, 1)) rfl ?_
  refine g_aload_n hF (by decide +kernel : decode cX5_changeIf 1 = .ok (.aload_n 0, 1)) rfl ?_
  refine g_iload_n hF (by decide +kernel : decode cX5_changeIf 2 = .ok (.iload_n 1, 1)) rfl ?_
  refine g_iload_n hF (by decide +kernel : decode cX5_changeIf 3 = .ok (.iload_n 2, 1)) rfl ?_
  refine g_iload_n hF (by decide +kernel : decode cX5_changeIf 4 = .ok (.iload_n 3, 1)) rfl ?_
  refine g_iload hF (by decide +kernel : decode cX5_changeIf 5 = .ok (.iload 4, 2)) rfl ?_
  refine g_callV hF lkX5_49 (n2_X5_no X hX _ (by omega) _ _ _ (by omega) (by omega) (by omega) (fun q => h ⟨q.1, q.2.1, q.2.2⟩) _) (by decide +kernel : decode cX5_changeIf 7 = .ok (.invokevirtual 49, 3)) (by decide) rfl rfl rfl rfl jok51 (Nat.le_of_ble_eq_true rfl) (fun v7 m7 h7 => ?_)
  obtain ⟨rfl, e7⟩ := h7
  obtain rfl := e7.symm
  refine g_callV hF lkX5_53 (n_X5_fails X hX _ (by decide) _) (by decide +kernel : decode cX5_changeIf 10 = .ok (.invokevirtual 53, 3)) (by decide) rfl rfl rfl rfl jok51 (Nat.le_of_ble_eq_true rfl) (fun v10 m10 h10 => ?_)
  obtain ⟨rfl, e10⟩ := h10
  obtain rfl := e10.symm
  refine g_if_eq hF (tgt := 18) (by decide +kernel : decode cX5_changeIf 13 = .ok (.ifCond .eq 5, 3)) (by decide) (by omega) (fun c13 => ?_) (fun c13 => ?_)
  · skip
    exact absurd c13 (by decide)
  · skip
    refine g_iconst hF (by decide +kernel : decode cX5_changeIf 16 = .ok (.iconst 0, 1)) ?_
    refine g_zreturn hF hQ (by decide +kernel : decode cX5_changeIf 17 = .ok (.ireturn, 1)) (by first | exact Or.inl rfl | exact Or.inr rfl | omega) ?_
    exact ⟨rfl, rfl⟩
set_option maxHeartbeats 4000000 in
set_option maxRecDepth 100000 in
theorem c_X5_take (X : jX) (hX : jxok X) (s : Nat) (hs : s < 8) (k : Int) (hk : num k) (m : jM) (hI : MI m) : Con X yX5_take cX5_take 4 (some .int) 8 [vR 2 51, vI s, vI k] m (fun o m' => o = some (vI (tat (mR m s) k)) ∧ MW (mset m 51 2 0) s (fmark (mR m s) k (-2)) m') := by
  refine Con.of hX (by decide) (Nat.le_of_ble_eq_true rfl) (fun F hF hQ => ?_)
  have hr := hI.1 s hs
  have hk2 : -1 ≤ k ∧ k ≤ 255 := hk
  refine g_aload_n hF (by decide +kernel : decode cX5_take 0 = .ok (.aload_n 0, 1)) rfl ?_
  refine g_aload_n hF (by decide +kernel : decode cX5_take 1 = .ok (.aload_n 0, 1)) rfl ?_
  refine g_iload_n hF (by decide +kernel : decode cX5_take 2 = .ok (.iload_n 1, 1)) rfl ?_
  refine g_iload_n hF (by decide +kernel : decode cX5_take 3 = .ok (.iload_n 2, 1)) rfl ?_
  refine g_iconst hF (by decide +kernel : decode cX5_take 4 = .ok (.iconst 0, 1)) ?_
  refine g_iconst hF (by decide +kernel : decode cX5_take 5 = .ok (.iconst 0, 1)) ?_
  refine g_callV hF lkX5_49 (y_X5_no X hX _ (by omega) _ _ _ (by omega) (by omega) (by omega) (by unfold num; omega) _) (by decide +kernel : decode cX5_take 6 = .ok (.invokevirtual 49, 3)) (by decide) rfl rfl rfl rfl jok51 (Nat.le_of_ble_eq_true rfl) (fun v6 m6 h6 => ?_)
  obtain ⟨rfl, e6⟩ := h6
  obtain rfl := e6.symm
  refine g_callV hF lkX5_53 (y_X5_fails X hX _) (by decide +kernel : decode cX5_take 9 = .ok (.invokevirtual 53, 3)) (by decide) rfl rfl rfl rfl jok51 (Nat.le_of_ble_eq_true rfl) (fun v9 m9 h9 => ?_)
  obtain ⟨rfl, e9⟩ := h9
  have S0 : MSm m m9 := by rw [e9]; exact MSm_code m (Or.inl rfl) 0
  have I0 := MI_S hI S0
  have z0 : m9 51 2 = 0 := by rw [e9, mset_at]
  have r0 : ∀ t : Nat, mR m9 t = mR m t := fun t => mR_52 (S0.1 52 (by decide) (by decide) (by decide)) t
  refine g_if_eq hF (tgt := 17) (by decide +kernel : decode cX5_take 12 = .ok (.ifCond .eq 5, 3)) (by decide) (by omega) (fun c12 => ?_) (fun c12 => ?_)
  · skip
    refine g_aload_n hF (by decide +kernel : decode cX5_take 17 = .ok (.aload_n 0, 1)) rfl ?_
    refine g_iload_n hF (by decide +kernel : decode cX5_take 18 = .ok (.iload_n 1, 1)) rfl ?_
    refine g_callV hF lkX5_56 (c_X5_keeps X hX _ (by omega) _ (by assumption)) (by decide +kernel : decode cX5_take 19 = .ok (.invokevirtual 56, 3)) (by decide) rfl rfl rfl rfl jok51 (Nat.le_of_ble_eq_true rfl) (fun v19 m19 h19 => ?_)
    obtain ⟨rfl, k19⟩ := h19
    have I1 := MI_keep hs I0 k19
    have rk : mR m19 s = mR m s := by rw [mR_52 (m_52 k19), r0]
    have cw0 : MW m9 s (mR m s) m19 := by rw [← rk]; exact MW_of k19 (mw_self m19 s).symm
    refine g_aload_n hF (by decide +kernel : decode cX5_take 22 = .ok (.aload_n 0, 1)) rfl ?_
    refine g_iload_n hF (by decide +kernel : decode cX5_take 23 = .ok (.iload_n 1, 1)) rfl ?_
    refine g_iload_n hF (by decide +kernel : decode cX5_take 24 = .ok (.iload_n 2, 1)) rfl ?_
    refine g_callV hF lkX5_60 (c_X5_at X hX _ (by omega) _ (show num _ from ⟨by omega, by omega⟩) _) (by decide +kernel : decode cX5_take 25 = .ok (.invokevirtual 60, 3)) (by decide) rfl rfl rfl rfl jok51 (Nat.le_of_ble_eq_true rfl) (fun v25 m25 h25 => ?_)
    obtain ⟨rfl, e25⟩ := h25
    obtain rfl := e25.symm
    rw [show mR m19 s (k + 1) = tat (mR m s) k by rw [rk, tat_in hk2]]
    have hb := tat_b hr k
    refine g_istore_n hF (by decide +kernel : decode cX5_take 28 = .ok (.istore_n 3, 1)) (by decide) ?_
    refine g_aload_n hF (by decide +kernel : decode cX5_take 29 = .ok (.aload_n 0, 1)) rfl ?_
    refine g_iload_n hF (by decide +kernel : decode cX5_take 30 = .ok (.iload_n 1, 1)) rfl ?_
    refine g_iload_n hF (by decide +kernel : decode cX5_take 31 = .ok (.iload_n 2, 1)) rfl ?_
    refine g_bipush hF (by decide +kernel : decode cX5_take 32 = .ok (.bipush (-2), 2)) (by decide) ?_
    refine g_callV hF lkX5_64 (c_X5_sets X hX _ (by omega) _ _ (show num _ from ⟨by omega, by omega⟩) _) (by decide +kernel : decode cX5_take 34 = .ok (.invokevirtual 64, 3)) (by decide) rfl rfl rfl rfl jok51 (Nat.le_of_ble_eq_true rfl) (fun v34 m34 h34 => ?_)
    obtain ⟨rfl, e34⟩ := h34
    have cw : MW m9 s (fmark (mR m s) k (-2)) m34 := by rw [← rk]; exact MW_of k19 e34
    refine g_iload_n hF (by decide +kernel : decode cX5_take 37 = .ok (.iload_n 3, 1)) rfl ?_
    refine g_ireturn hF hQ (by decide +kernel : decode cX5_take 38 = .ok (.ireturn, 1)) ?_
    exact ⟨rfl, by rw [← e9]; exact cw⟩
  · skip
    exact absurd c12 (by decide)
set_option maxHeartbeats 4000000 in
set_option maxRecDepth 100000 in
theorem n1_X5_take (X : jX) (hX : jxok X) (s : Int) (js : jr s) (k : Int) (jk : jr k) (m : jM) (h : ¬ (0 ≤ s ∧ s < 8)) : Con X yX5_take cX5_take 4 (some .int) 8 [vR 2 51, vI s, vI k] m (fun o m' => o = some (vI 0) ∧ m' = mset m 51 2 1) := by
  refine Con.of hX (by decide) (Nat.le_of_ble_eq_true rfl) (fun F hF hQ => ?_)
  refine g_aload_n hF (by decide +kernel : decode cX5_take 0 = .ok (.aload_n 0, 1)) rfl ?_
  refine g_aload_n hF (by decide +kernel : decode cX5_take 1 = .ok (.aload_n 0, 1)) rfl ?_
  refine g_iload_n hF (by decide +kernel : decode cX5_take 2 = .ok (.iload_n 1, 1)) rfl ?_
  refine g_iload_n hF (by decide +kernel : decode cX5_take 3 = .ok (.iload_n 2, 1)) rfl ?_
  refine g_iconst hF (by decide +kernel : decode cX5_take 4 = .ok (.iconst 0, 1)) ?_
  refine g_iconst hF (by decide +kernel : decode cX5_take 5 = .ok (.iconst 0, 1)) ?_
  refine g_callV hF lkX5_49 (n1_X5_no X hX _ (by omega) (by omega) _ _ _ _) (by decide +kernel : decode cX5_take 6 = .ok (.invokevirtual 49, 3)) (by decide) rfl rfl rfl rfl jok51 (Nat.le_of_ble_eq_true rfl) (fun v6 m6 h6 => ?_)
  obtain ⟨rfl, e6⟩ := h6
  obtain rfl := e6.symm
  refine g_callV hF lkX5_53 (n_X5_fails X hX _ (by decide) _) (by decide +kernel : decode cX5_take 9 = .ok (.invokevirtual 53, 3)) (by decide) rfl rfl rfl rfl jok51 (Nat.le_of_ble_eq_true rfl) (fun v9 m9 h9 => ?_)
  obtain ⟨rfl, e9⟩ := h9
  obtain rfl := e9.symm
  refine g_if_eq hF (tgt := 17) (by decide +kernel : decode cX5_take 12 = .ok (.ifCond .eq 5, 3)) (by decide) (by omega) (fun c12 => ?_) (fun c12 => ?_)
  · skip
    exact absurd c12 (by decide)
  · skip
    refine g_iconst hF (by decide +kernel : decode cX5_take 15 = .ok (.iconst 0, 1)) ?_
    refine g_ireturn hF hQ (by decide +kernel : decode cX5_take 16 = .ok (.ireturn, 1)) ?_
    exact ⟨rfl, rfl⟩
set_option maxHeartbeats 4000000 in
set_option maxRecDepth 100000 in
theorem n2_X5_take (X : jX) (hX : jxok X) (s : Nat) (hs : s < 8) (k : Int) (jk : jr k) (m : jM) (h : ¬ (num k)) : Con X yX5_take cX5_take 4 (some .int) 8 [vR 2 51, vI s, vI k] m (fun o m' => o = some (vI 0) ∧ m' = mset m 51 2 2) := by
  refine Con.of hX (by decide) (Nat.le_of_ble_eq_true rfl) (fun F hF hQ => ?_)
  refine g_aload_n hF (by decide +kernel : decode cX5_take 0 = .ok (.aload_n 0, 1)) rfl ?_
  refine g_aload_n hF (by decide +kernel : decode cX5_take 1 = .ok (.aload_n 0, 1)) rfl ?_
  refine g_iload_n hF (by decide +kernel : decode cX5_take 2 = .ok (.iload_n 1, 1)) rfl ?_
  refine g_iload_n hF (by decide +kernel : decode cX5_take 3 = .ok (.iload_n 2, 1)) rfl ?_
  refine g_iconst hF (by decide +kernel : decode cX5_take 4 = .ok (.iconst 0, 1)) ?_
  refine g_iconst hF (by decide +kernel : decode cX5_take 5 = .ok (.iconst 0, 1)) ?_
  refine g_callV hF lkX5_49 (n2_X5_no X hX _ (by omega) _ _ _ (by omega) (by omega) (by omega) (fun q => h q.1) _) (by decide +kernel : decode cX5_take 6 = .ok (.invokevirtual 49, 3)) (by decide) rfl rfl rfl rfl jok51 (Nat.le_of_ble_eq_true rfl) (fun v6 m6 h6 => ?_)
  obtain ⟨rfl, e6⟩ := h6
  obtain rfl := e6.symm
  refine g_callV hF lkX5_53 (n_X5_fails X hX _ (by decide) _) (by decide +kernel : decode cX5_take 9 = .ok (.invokevirtual 53, 3)) (by decide) rfl rfl rfl rfl jok51 (Nat.le_of_ble_eq_true rfl) (fun v9 m9 h9 => ?_)
  obtain ⟨rfl, e9⟩ := h9
  obtain rfl := e9.symm
  refine g_if_eq hF (tgt := 17) (by decide +kernel : decode cX5_take 12 = .ok (.ifCond .eq 5, 3)) (by decide) (by omega) (fun c12 => ?_) (fun c12 => ?_)
  · skip
    exact absurd c12 (by decide)
  · skip
    refine g_iconst hF (by decide +kernel : decode cX5_take 15 = .ok (.iconst 0, 1)) ?_
    refine g_ireturn hF hQ (by decide +kernel : decode cX5_take 16 = .ok (.ireturn, 1)) ?_
    exact ⟨rfl, rfl⟩
set_option maxHeartbeats 4000000 in
set_option maxRecDepth 100000 in
theorem c_X5_takeIf (X : jX) (hX : jxok X) (s : Nat) (hs : s < 8) (k v : Int) (hk : num k) (hv : num v) (m : jM) (hI : MI m) : Con X yX5_takeIf cX5_takeIf 5 (some .boolean) 8 [vR 2 51, vI s, vI k, vI v] m (fun o m' => o = some (vI (if tat (mR m s) k = v then 1 else 0)) ∧ MW (mset m 51 2 0) s (if tat (mR m s) k = v then fmark (mR m s) k (-2) else mR m s) m') := by
  refine Con.of hX (by decide) (Nat.le_of_ble_eq_true rfl) (fun F hF hQ => ?_)
  have hr := hI.1 s hs
  have hk2 : -1 ≤ k ∧ k ≤ 255 := hk
  have hv2 : -1 ≤ v ∧ v ≤ 255 := hv
  refine g_aload_n hF (by decide +kernel : decode cX5_takeIf 0 = .ok (.aload_n 0, 1)) rfl ?_
  refine g_aload_n hF (by decide +kernel : decode cX5_takeIf 1 = .ok (.aload_n 0, 1)) rfl ?_
  refine g_iload_n hF (by decide +kernel : decode cX5_takeIf 2 = .ok (.iload_n 1, 1)) rfl ?_
  refine g_iload_n hF (by decide +kernel : decode cX5_takeIf 3 = .ok (.iload_n 2, 1)) rfl ?_
  refine g_iload_n hF (by decide +kernel : decode cX5_takeIf 4 = .ok (.iload_n 3, 1)) rfl ?_
  refine g_iconst hF (by decide +kernel : decode cX5_takeIf 5 = .ok (.iconst 0, 1)) ?_
  refine g_callV hF lkX5_49 (y_X5_no X hX _ (by omega) _ _ _ (by omega) (by omega) (by omega) (by unfold num; omega) _) (by decide +kernel : decode cX5_takeIf 6 = .ok (.invokevirtual 49, 3)) (by decide) rfl rfl rfl rfl jok51 (Nat.le_of_ble_eq_true rfl) (fun v6 m6 h6 => ?_)
  obtain ⟨rfl, e6⟩ := h6
  obtain rfl := e6.symm
  refine g_callV hF lkX5_53 (y_X5_fails X hX _) (by decide +kernel : decode cX5_takeIf 9 = .ok (.invokevirtual 53, 3)) (by decide) rfl rfl rfl rfl jok51 (Nat.le_of_ble_eq_true rfl) (fun v9 m9 h9 => ?_)
  obtain ⟨rfl, e9⟩ := h9
  have S0 : MSm m m9 := by rw [e9]; exact MSm_code m (Or.inl rfl) 0
  have I0 := MI_S hI S0
  have z0 : m9 51 2 = 0 := by rw [e9, mset_at]
  have r0 : ∀ t : Nat, mR m9 t = mR m t := fun t => mR_52 (S0.1 52 (by decide) (by decide) (by decide)) t
  refine g_if_eq hF (tgt := 17) (by decide +kernel : decode cX5_takeIf 12 = .ok (.ifCond .eq 5, 3)) (by decide) (by omega) (fun c12 => ?_) (fun c12 => ?_)
  · skip
    refine g_aload_n hF (by decide +kernel : decode cX5_takeIf 17 = .ok (.aload_n 0, 1)) rfl ?_
    refine g_iload_n hF (by decide +kernel : decode cX5_takeIf 18 = .ok (.iload_n 1, 1)) rfl ?_
    refine g_callV hF lkX5_56 (c_X5_keeps X hX _ (by omega) _ (by assumption)) (by decide +kernel : decode cX5_takeIf 19 = .ok (.invokevirtual 56, 3)) (by decide) rfl rfl rfl rfl jok51 (Nat.le_of_ble_eq_true rfl) (fun v19 m19 h19 => ?_)
    obtain ⟨rfl, k19⟩ := h19
    have I1 := MI_keep hs I0 k19
    have rk : mR m19 s = mR m s := by rw [mR_52 (m_52 k19), r0]
    have cw0 : MW m9 s (mR m s) m19 := by rw [← rk]; exact MW_of k19 (mw_self m19 s).symm
    refine g_aload_n hF (by decide +kernel : decode cX5_takeIf 22 = .ok (.aload_n 0, 1)) rfl ?_
    refine g_iload_n hF (by decide +kernel : decode cX5_takeIf 23 = .ok (.iload_n 1, 1)) rfl ?_
    refine g_iload_n hF (by decide +kernel : decode cX5_takeIf 24 = .ok (.iload_n 2, 1)) rfl ?_
    refine g_callV hF lkX5_60 (c_X5_at X hX _ (by omega) _ (show num _ from ⟨by omega, by omega⟩) _) (by decide +kernel : decode cX5_takeIf 25 = .ok (.invokevirtual 60, 3)) (by decide) rfl rfl rfl rfl jok51 (Nat.le_of_ble_eq_true rfl) (fun v25 m25 h25 => ?_)
    obtain ⟨rfl, e25⟩ := h25
    obtain rfl := e25.symm
    rw [show mR m19 s (k + 1) = tat (mR m s) k by rw [rk, tat_in hk2]]
    have hb := tat_b hr k
    refine g_iload_n hF (by decide +kernel : decode cX5_takeIf 28 = .ok (.iload_n 3, 1)) rfl ?_
    refine g_icmp_ne hF (tgt := 36) (by decide +kernel : decode cX5_takeIf 29 = .ok (.if_icmp .ne 7, 3)) (by decide) (by omega) (by omega) (fun c29 => ?_) (fun c29 => ?_)
    · skip
      refine g_iconst hF (by decide +kernel : decode cX5_takeIf 36 = .ok (.iconst 0, 1)) ?_
      refine g_istore hF (by decide +kernel : decode cX5_takeIf 37 = .ok (.istore 4, 2)) (by decide) ?_
      refine g_iload hF (by decide +kernel : decode cX5_takeIf 39 = .ok (.iload 4, 2)) rfl ?_
      refine g_if_eq hF (tgt := 52) (by decide +kernel : decode cX5_takeIf 41 = .ok (.ifCond .eq 11, 3)) (by decide) (by omega) (fun c41 => ?_) (fun c41 => ?_)
      · skip
        refine g_iload hF (by decide +kernel : decode cX5_takeIf 52 = .ok (.iload 4, 2)) rfl ?_
        refine g_zreturn hF hQ (by decide +kernel : decode cX5_takeIf 54 = .ok (.ireturn, 1)) (by first | exact Or.inl rfl | exact Or.inr rfl | omega) ?_
        exact ⟨by rw [if_neg c29], by rw [← e9]; exact MW_if (fun q => absurd q c29) (fun _ => cw0)⟩
      · skip
        exact absurd c41 (by decide)
    · skip
      refine g_iconst hF (by decide +kernel : decode cX5_takeIf 32 = .ok (.iconst 1, 1)) ?_
      refine g_goto hF (tgt := 37) (by decide +kernel : decode cX5_takeIf 33 = .ok (.goto 4, 3)) (by decide) ?_
      refine g_istore hF (by decide +kernel : decode cX5_takeIf 37 = .ok (.istore 4, 2)) (by decide) ?_
      refine g_iload hF (by decide +kernel : decode cX5_takeIf 39 = .ok (.iload 4, 2)) rfl ?_
      refine g_if_eq hF (tgt := 52) (by decide +kernel : decode cX5_takeIf 41 = .ok (.ifCond .eq 11, 3)) (by decide) (by omega) (fun c41 => ?_) (fun c41 => ?_)
      · skip
        exact absurd c41 (by decide)
      · skip
        refine g_aload_n hF (by decide +kernel : decode cX5_takeIf 44 = .ok (.aload_n 0, 1)) rfl ?_
        refine g_iload_n hF (by decide +kernel : decode cX5_takeIf 45 = .ok (.iload_n 1, 1)) rfl ?_
        refine g_iload_n hF (by decide +kernel : decode cX5_takeIf 46 = .ok (.iload_n 2, 1)) rfl ?_
        refine g_bipush hF (by decide +kernel : decode cX5_takeIf 47 = .ok (.bipush (-2), 2)) (by decide) ?_
        refine g_callV hF lkX5_64 (c_X5_sets X hX _ (by omega) _ _ (show num _ from ⟨by omega, by omega⟩) _) (by decide +kernel : decode cX5_takeIf 49 = .ok (.invokevirtual 64, 3)) (by decide) rfl rfl rfl rfl jok51 (Nat.le_of_ble_eq_true rfl) (fun v49 m49 h49 => ?_)
        obtain ⟨rfl, e49⟩ := h49
        have cw : MW m9 s (fmark (mR m s) k (-2)) m49 := by rw [← rk]; exact MW_of k19 e49
        refine g_iload hF (by decide +kernel : decode cX5_takeIf 52 = .ok (.iload 4, 2)) rfl ?_
        refine g_zreturn hF hQ (by decide +kernel : decode cX5_takeIf 54 = .ok (.ireturn, 1)) (by first | exact Or.inl rfl | exact Or.inr rfl | omega) ?_
        exact ⟨by rw [if_pos c29], by rw [← e9]; exact MW_if (fun _ => cw) (fun q => absurd c29 q)⟩
  · skip
    exact absurd c12 (by decide)
set_option maxHeartbeats 4000000 in
set_option maxRecDepth 100000 in
theorem n1_X5_takeIf (X : jX) (hX : jxok X) (s : Int) (js : jr s) (k : Int) (jk : jr k) (v : Int) (jv : jr v) (m : jM) (h : ¬ (0 ≤ s ∧ s < 8)) : Con X yX5_takeIf cX5_takeIf 5 (some .boolean) 8 [vR 2 51, vI s, vI k, vI v] m (fun o m' => o = some (vI 0) ∧ m' = mset m 51 2 1) := by
  refine Con.of hX (by decide) (Nat.le_of_ble_eq_true rfl) (fun F hF hQ => ?_)
  refine g_aload_n hF (by decide +kernel : decode cX5_takeIf 0 = .ok (.aload_n 0, 1)) rfl ?_
  refine g_aload_n hF (by decide +kernel : decode cX5_takeIf 1 = .ok (.aload_n 0, 1)) rfl ?_
  refine g_iload_n hF (by decide +kernel : decode cX5_takeIf 2 = .ok (.iload_n 1, 1)) rfl ?_
  refine g_iload_n hF (by decide +kernel : decode cX5_takeIf 3 = .ok (.iload_n 2, 1)) rfl ?_
  refine g_iload_n hF (by decide +kernel : decode cX5_takeIf 4 = .ok (.iload_n 3, 1)) rfl ?_
  refine g_iconst hF (by decide +kernel : decode cX5_takeIf 5 = .ok (.iconst 0, 1)) ?_
  refine g_callV hF lkX5_49 (n1_X5_no X hX _ (by omega) (by omega) _ _ _ _) (by decide +kernel : decode cX5_takeIf 6 = .ok (.invokevirtual 49, 3)) (by decide) rfl rfl rfl rfl jok51 (Nat.le_of_ble_eq_true rfl) (fun v6 m6 h6 => ?_)
  obtain ⟨rfl, e6⟩ := h6
  obtain rfl := e6.symm
  refine g_callV hF lkX5_53 (n_X5_fails X hX _ (by decide) _) (by decide +kernel : decode cX5_takeIf 9 = .ok (.invokevirtual 53, 3)) (by decide) rfl rfl rfl rfl jok51 (Nat.le_of_ble_eq_true rfl) (fun v9 m9 h9 => ?_)
  obtain ⟨rfl, e9⟩ := h9
  obtain rfl := e9.symm
  refine g_if_eq hF (tgt := 17) (by decide +kernel : decode cX5_takeIf 12 = .ok (.ifCond .eq 5, 3)) (by decide) (by omega) (fun c12 => ?_) (fun c12 => ?_)
  · skip
    exact absurd c12 (by decide)
  · skip
    refine g_iconst hF (by decide +kernel : decode cX5_takeIf 15 = .ok (.iconst 0, 1)) ?_
    refine g_zreturn hF hQ (by decide +kernel : decode cX5_takeIf 16 = .ok (.ireturn, 1)) (by first | exact Or.inl rfl | exact Or.inr rfl | omega) ?_
    exact ⟨rfl, rfl⟩
set_option maxHeartbeats 4000000 in
set_option maxRecDepth 100000 in
theorem n2_X5_takeIf (X : jX) (hX : jxok X) (s : Nat) (hs : s < 8) (k : Int) (jk : jr k) (v : Int) (jv : jr v) (m : jM) (h : ¬ (num k ∧ num v)) : Con X yX5_takeIf cX5_takeIf 5 (some .boolean) 8 [vR 2 51, vI s, vI k, vI v] m (fun o m' => o = some (vI 0) ∧ m' = mset m 51 2 2) := by
  refine Con.of hX (by decide) (Nat.le_of_ble_eq_true rfl) (fun F hF hQ => ?_)
  refine g_aload_n hF (by decide +kernel : decode cX5_takeIf 0 = .ok (.aload_n 0, 1)) rfl ?_
  refine g_aload_n hF (by decide +kernel : decode cX5_takeIf 1 = .ok (.aload_n 0, 1)) rfl ?_
  refine g_iload_n hF (by decide +kernel : decode cX5_takeIf 2 = .ok (.iload_n 1, 1)) rfl ?_
  refine g_iload_n hF (by decide +kernel : decode cX5_takeIf 3 = .ok (.iload_n 2, 1)) rfl ?_
  refine g_iload_n hF (by decide +kernel : decode cX5_takeIf 4 = .ok (.iload_n 3, 1)) rfl ?_
  refine g_iconst hF (by decide +kernel : decode cX5_takeIf 5 = .ok (.iconst 0, 1)) ?_
  refine g_callV hF lkX5_49 (n2_X5_no X hX _ (by omega) _ _ _ (by omega) (by omega) (by omega) (fun q => h ⟨q.1, q.2.1⟩) _) (by decide +kernel : decode cX5_takeIf 6 = .ok (.invokevirtual 49, 3)) (by decide) rfl rfl rfl rfl jok51 (Nat.le_of_ble_eq_true rfl) (fun v6 m6 h6 => ?_)
  obtain ⟨rfl, e6⟩ := h6
  obtain rfl := e6.symm
  refine g_callV hF lkX5_53 (n_X5_fails X hX _ (by decide) _) (by decide +kernel : decode cX5_takeIf 9 = .ok (.invokevirtual 53, 3)) (by decide) rfl rfl rfl rfl jok51 (Nat.le_of_ble_eq_true rfl) (fun v9 m9 h9 => ?_)
  obtain ⟨rfl, e9⟩ := h9
  obtain rfl := e9.symm
  refine g_if_eq hF (tgt := 17) (by decide +kernel : decode cX5_takeIf 12 = .ok (.ifCond .eq 5, 3)) (by decide) (by omega) (fun c12 => ?_) (fun c12 => ?_)
  · skip
    exact absurd c12 (by decide)
  · skip
    refine g_iconst hF (by decide +kernel : decode cX5_takeIf 15 = .ok (.iconst 0, 1)) ?_
    refine g_zreturn hF hQ (by decide +kernel : decode cX5_takeIf 16 = .ok (.ireturn, 1)) (by first | exact Or.inl rfl | exact Or.inr rfl | omega) ?_
    exact ⟨rfl, rfl⟩

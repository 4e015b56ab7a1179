set_option maxHeartbeats 4000000 in
set_option maxRecDepth 100000 in
theorem c_X4_put (X : jX) (hX : jxok X) (s : Nat) (hs : s < 8) (k v : Int) (hk : num k) (hv : num v) (m : jM) (hC : CI m) : Con X yX4_put cX4_put 6 (some .int) 12 [vR 2 38, vI s, vI k, vI v] m (fun o m' => o = some (vI (tat (m s) k)) ∧ CW m s (fmark (m s) k v) m') := by
  refine Con.of hX (by decide) (Nat.le_of_ble_eq_true rfl) (fun F hF hQ => ?_)
  have hr := (hC.1 s (by omega)).1
  obtain ⟨nx, hn, h0⟩ := hC.2.2.1
  unfold num at hk hv
  refine g_iload_n hF (by decide +kernel : decode cX4_put 0 = .ok (.iload_n 1, 1)) rfl ?_
  refine g_callS hF lkX4_51 (c_X4_checkSlot X hX _ (by omega) (by omega) _) (by decide +kernel : decode cX4_put 1 = .ok (.invokestatic 51, 3)) (by decide) rfl rfl (Nat.le_of_ble_eq_true rfl) (fun v1 m1 h1 => ?_)
  obtain ⟨rfl, e1⟩ := h1
  obtain rfl := e1.symm
  refine g_iload_n hF (by decide +kernel : decode cX4_put 4 = .ok (.iload_n 2, 1)) rfl ?_
  refine g_callS hF lkX4_55 (c_X4_checkNumber X hX _ (by omega) (by unfold num; omega) _) (by decide +kernel : decode cX4_put 5 = .ok (.invokestatic 55, 3)) (by decide) rfl rfl (Nat.le_of_ble_eq_true rfl) (fun v5 m5 h5 => ?_)
  obtain ⟨rfl, e5⟩ := h5
  obtain rfl := e5.symm
  refine g_iload_n hF (by decide +kernel : decode cX4_put 8 = .ok (.iload_n 3, 1)) rfl ?_
  refine g_callS hF lkX4_55 (c_X4_checkNumber X hX _ (by omega) (by unfold num; omega) _) (by decide +kernel : decode cX4_put 9 = .ok (.invokestatic 55, 3)) (by decide) rfl rfl (Nat.le_of_ble_eq_true rfl) (fun v9 m9 h9 => ?_)
  obtain ⟨rfl, e9⟩ := h9
  obtain rfl := e9.symm
  refine g_aload_n hF (by decide +kernel : decode cX4_put 12 = .ok (.aload_n 0, 1)) rfl ?_
  refine g_iload_n hF (by decide +kernel : decode cX4_put 13 = .ok (.iload_n 1, 1)) rfl ?_
  refine g_callV hF lkX4_58 (c_X4_openToWrite X hX _ (by assumption) _ (by assumption) _ (by assumption) (by assumption)) (by decide +kernel : decode cX4_put 14 = .ok (.invokevirtual 58, 3)) (by decide) rfl rfl rfl rfl jok38 (Nat.le_of_ble_eq_true rfl) (fun v14 m14 h14 => ?_)
  obtain ⟨rfl, e14⟩ := h14
  have ks : m14 s = m s := by rw [e14]; exact keepM_row (by omega) (by omega) (by omega) (by omega)
  have kt : tok m14 s := by rw [e14]; exact (keepM_CI hC hs hs hn).1 s (by omega)
  have kr := kt.1
  have cw0 : CW m s (m s) m14 := by rw [e14]; exact CW_keep hC hs hn h0
  refine g_astore hF (by decide +kernel : decode cX4_put 17 = .ok (.astore 4, 2)) (by decide) ?_
  refine g_aload hF (by decide +kernel : decode cX4_put 19 = .ok (.aload 4, 2)) rfl ?_
  refine g_iload_n hF (by decide +kernel : decode cX4_put 21 = .ok (.iload_n 2, 1)) rfl ?_
  refine g_callV hF lkX4_62 (c_X2_at X hX _ (show s < 19 by omega) _ (by omega) _) (by decide +kernel : decode cX4_put 22 = .ok (.invokevirtual 62, 3)) (by decide) rfl rfl rfl rfl (show s < 19 by omega) (Nat.le_of_ble_eq_true rfl) (fun v22 m22 h22 => ?_)
  obtain ⟨rfl, e22⟩ := h22
  obtain rfl := e22.symm
  rw [ks]
  have hb := tat_b hr k
  refine g_istore hF (by decide +kernel : decode cX4_put 25 = .ok (.istore 5, 2)) (by decide) ?_
  refine g_aload hF (by decide +kernel : decode cX4_put 27 = .ok (.aload 4, 2)) rfl ?_
  refine g_iload_n hF (by decide +kernel : decode cX4_put 29 = .ok (.iload_n 2, 1)) rfl ?_
  refine g_iload_n hF (by decide +kernel : decode cX4_put 30 = .ok (.iload_n 3, 1)) rfl ?_
  refine g_callV hF lkX4_66 (c_X2_mark X hX _ (show s < 19 by omega) _ _ (by omega) (by omega) _ (by assumption)) (by decide +kernel : decode cX4_put 31 = .ok (.invokevirtual 66, 3)) (by decide) rfl rfl rfl rfl (show s < 19 by omega) (Nat.le_of_ble_eq_true rfl) (fun v31 m31 h31 => ?_)
  obtain ⟨rfl, e31⟩ := h31
  have cw : CW m s (fmark (m s) k v) m31 := by rw [e31, ks, e14]; exact CW_tset hC hs hn h0 (fmark_ok hr (by omega))
  refine g_iload hF (by decide +kernel : decode cX4_put 34 = .ok (.iload 5, 2)) rfl ?_
  refine g_ireturn hF hQ (by decide +kernel : decode cX4_put 36 = .ok (.ireturn, 1)) ?_
  exact ⟨rfl, cw⟩
set_option maxHeartbeats 4000000 in
set_option maxRecDepth 100000 in
theorem c_X4_putFirst (X : jX) (hX : jxok X) (s : Nat) (hs : s < 8) (k v : Int) (hk : num k) (hv : num v) (m : jM) (hC : CI m) : Con X yX4_putFirst cX4_putFirst 6 (some .int) 12 [vR 2 38, vI s, vI k, vI v] m (fun o m' => o = some (vI (tat (m s) k)) ∧ CW m s (if tat (m s) k < 0 then fmark (m s) k v else m s) m') := by
  refine Con.of hX (by decide) (Nat.le_of_ble_eq_true rfl) (fun F hF hQ => ?_)
  have hr := (hC.1 s (by omega)).1
  obtain ⟨nx, hn, h0⟩ := hC.2.2.1
  unfold num at hk hv
  refine g_iload_n hF (by decide +kernel : decode cX4_putFirst 0 = .ok (.iload_n 1, 1)) rfl ?_
  refine g_callS hF lkX4_51 (c_X4_checkSlot X hX _ (by omega) (by omega) _) (by decide +kernel : decode cX4_putFirst 1 = .ok (.invokestatic 51, 3)) (by decide) rfl rfl (Nat.le_of_ble_eq_true rfl) (fun v1 m1 h1 => ?_)
  obtain ⟨rfl, e1⟩ := h1
  obtain rfl := e1.symm
  refine g_iload_n hF (by decide +kernel : decode cX4_putFirst 4 = .ok (.iload_n 2, 1)) rfl ?_
  refine g_callS hF lkX4_55 (c_X4_checkNumber X hX _ (by omega) (by unfold num; omega) _) (by decide +kernel : decode cX4_putFirst 5 = .ok (.invokestatic 55, 3)) (by decide) rfl rfl (Nat.le_of_ble_eq_true rfl) (fun v5 m5 h5 => ?_)
  obtain ⟨rfl, e5⟩ := h5
  obtain rfl := e5.symm
  refine g_iload_n hF (by decide +kernel : decode cX4_putFirst 8 = .ok (.iload_n 3, 1)) rfl ?_
  refine g_callS hF lkX4_55 (c_X4_checkNumber X hX _ (by omega) (by unfold num; omega) _) (by decide +kernel : decode cX4_putFirst 9 = .ok (.invokestatic 55, 3)) (by decide) rfl rfl (Nat.le_of_ble_eq_true rfl) (fun v9 m9 h9 => ?_)
  obtain ⟨rfl, e9⟩ := h9
  obtain rfl := e9.symm
  refine g_aload_n hF (by decide +kernel : decode cX4_putFirst 12 = .ok (.aload_n 0, 1)) rfl ?_
  refine g_iload_n hF (by decide +kernel : decode cX4_putFirst 13 = .ok (.iload_n 1, 1)) rfl ?_
  refine g_callV hF lkX4_58 (c_X4_openToWrite X hX _ (by assumption) _ (by assumption) _ (by assumption) (by assumption)) (by decide +kernel : decode cX4_putFirst 14 = .ok (.invokevirtual 58, 3)) (by decide) rfl rfl rfl rfl jok38 (Nat.le_of_ble_eq_true rfl) (fun v14 m14 h14 => ?_)
  obtain ⟨rfl, e14⟩ := h14
  have ks : m14 s = m s := by rw [e14]; exact keepM_row (by omega) (by omega) (by omega) (by omega)
  have kt : tok m14 s := by rw [e14]; exact (keepM_CI hC hs hs hn).1 s (by omega)
  have kr := kt.1
  have cw0 : CW m s (m s) m14 := by rw [e14]; exact CW_keep hC hs hn h0
  refine g_astore hF (by decide +kernel : decode cX4_putFirst 17 = .ok (.astore 4, 2)) (by decide) ?_
  refine g_aload hF (by decide +kernel : decode cX4_putFirst 19 = .ok (.aload 4, 2)) rfl ?_
  refine g_iload_n hF (by decide +kernel : decode cX4_putFirst 21 = .ok (.iload_n 2, 1)) rfl ?_
  refine g_callV hF lkX4_62 (c_X2_at X hX _ (show s < 19 by omega) _ (by omega) _) (by decide +kernel : decode cX4_putFirst 22 = .ok (.invokevirtual 62, 3)) (by decide) rfl rfl rfl rfl (show s < 19 by omega) (Nat.le_of_ble_eq_true rfl) (fun v22 m22 h22 => ?_)
  obtain ⟨rfl, e22⟩ := h22
  obtain rfl := e22.symm
  rw [ks]
  have hb := tat_b hr k
  refine g_istore hF (by decide +kernel : decode cX4_putFirst 25 = .ok (.istore 5, 2)) (by decide) ?_
  refine g_iload hF (by decide +kernel : decode cX4_putFirst 27 = .ok (.iload 5, 2)) rfl ?_
  refine g_bipush hF (by decide +kernel : decode cX4_putFirst 29 = .ok (.bipush (-2), 2)) (by decide) ?_
  refine g_icmp_eq hF (tgt := 40) (by decide +kernel : decode cX4_putFirst 31 = .ok (.if_icmp .eq 9, 3)) (by decide) (by omega) (by omega) (fun c31 => ?_) (fun c31 => ?_)
  · skip
    refine g_aload hF (by decide +kernel : decode cX4_putFirst 40 = .ok (.aload 4, 2)) rfl ?_
    refine g_iload_n hF (by decide +kernel : decode cX4_putFirst 42 = .ok (.iload_n 2, 1)) rfl ?_
    refine g_iload_n hF (by decide +kernel : decode cX4_putFirst 43 = .ok (.iload_n 3, 1)) rfl ?_
    refine g_callV hF lkX4_66 (c_X2_mark X hX _ (show s < 19 by omega) _ _ (by omega) (by omega) _ (by assumption)) (by decide +kernel : decode cX4_putFirst 44 = .ok (.invokevirtual 66, 3)) (by decide) rfl rfl rfl rfl (show s < 19 by omega) (Nat.le_of_ble_eq_true rfl) (fun v44 m44 h44 => ?_)
    obtain ⟨rfl, e44⟩ := h44
    have cw : CW m s (fmark (m s) k v) m44 := by rw [e44, ks, e14]; exact CW_tset hC hs hn h0 (fmark_ok hr (by omega))
    refine g_iload hF (by decide +kernel : decode cX4_putFirst 47 = .ok (.iload 5, 2)) rfl ?_
    refine g_ireturn hF hQ (by decide +kernel : decode cX4_putFirst 49 = .ok (.ireturn, 1)) ?_
    exact ⟨rfl, CW_if (fun _ => cw) (fun q => absurd q (by omega))⟩
  · skip
    refine g_iload hF (by decide +kernel : decode cX4_putFirst 34 = .ok (.iload 5, 2)) rfl ?_
    refine g_iconst hF (by decide +kernel : decode cX4_putFirst 36 = .ok (.iconst (-1), 1)) ?_
    refine g_icmp_ne hF (tgt := 47) (by decide +kernel : decode cX4_putFirst 37 = .ok (.if_icmp .ne 10, 3)) (by decide) (by omega) (by omega) (fun c37 => ?_) (fun c37 => ?_)
    · skip
      refine g_iload hF (by decide +kernel : decode cX4_putFirst 47 = .ok (.iload 5, 2)) rfl ?_
      refine g_ireturn hF hQ (by decide +kernel : decode cX4_putFirst 49 = .ok (.ireturn, 1)) ?_
      exact ⟨rfl, CW_if (fun q => absurd q (by omega)) (fun _ => cw0)⟩
    · skip
      refine g_aload hF (by decide +kernel : decode cX4_putFirst 40 = .ok (.aload 4, 2)) rfl ?_
      refine g_iload_n hF (by decide +kernel : decode cX4_putFirst 42 = .ok (.iload_n 2, 1)) rfl ?_
      refine g_iload_n hF (by decide +kernel : decode cX4_putFirst 43 = .ok (.iload_n 3, 1)) rfl ?_
      refine g_callV hF lkX4_66 (c_X2_mark X hX _ (show s < 19 by omega) _ _ (by omega) (by omega) _ (by assumption)) (by decide +kernel : decode cX4_putFirst 44 = .ok (.invokevirtual 66, 3)) (by decide) rfl rfl rfl rfl (show s < 19 by omega) (Nat.le_of_ble_eq_true rfl) (fun v44 m44 h44 => ?_)
      obtain ⟨rfl, e44⟩ := h44
      have cw : CW m s (fmark (m s) k v) m44 := by rw [e44, ks, e14]; exact CW_tset hC hs hn h0 (fmark_ok hr (by omega))
      refine g_iload hF (by decide +kernel : decode cX4_putFirst 47 = .ok (.iload 5, 2)) rfl ?_
      refine g_ireturn hF hQ (by decide +kernel : decode cX4_putFirst 49 = .ok (.ireturn, 1)) ?_
      exact ⟨rfl, CW_if (fun _ => cw) (fun q => absurd q (by omega))⟩
set_option maxHeartbeats 4000000 in
set_option maxRecDepth 100000 in
theorem c_X4_change (X : jX) (hX : jxok X) (s : Nat) (hs : s < 8) (k v : Int) (hk : num k) (hv : num v) (m : jM) (hC : CI m) : Con X yX4_change cX4_change 6 (some .int) 12 [vR 2 38, vI s, vI k, vI v] m (fun o m' => o = some (vI (tat (m s) k)) ∧ CW m s (if tat (m s) k = -2 then m s else fmark (m s) k v) m') := by
  refine Con.of hX (by decide) (Nat.le_of_ble_eq_true rfl) (fun F hF hQ => ?_)
  have hr := (hC.1 s (by omega)).1
  obtain ⟨nx, hn, h0⟩ := hC.2.2.1
  unfold num at hk hv
  refine g_iload_n hF (by decide +kernel : decode cX4_change 0 = .ok (.iload_n 1, 1)) rfl ?_
  refine g_callS hF lkX4_51 (c_X4_checkSlot X hX _ (by omega) (by omega) _) (by decide +kernel : decode cX4_change 1 = .ok (.invokestatic 51, 3)) (by decide) rfl rfl (Nat.le_of_ble_eq_true rfl) (fun v1 m1 h1 => ?_)
  obtain ⟨rfl, e1⟩ := h1
  obtain rfl := e1.symm
  refine g_iload_n hF (by decide +kernel : decode cX4_change 4 = .ok (.iload_n 2, 1)) rfl ?_
  refine g_callS hF lkX4_55 (c_X4_checkNumber X hX _ (by omega) (by unfold num; omega) _) (by decide +kernel : decode cX4_change 5 = .ok (.invokestatic 55, 3)) (by decide) rfl rfl (Nat.le_of_ble_eq_true rfl) (fun v5 m5 h5 => ?_)
  obtain ⟨rfl, e5⟩ := h5
  obtain rfl := e5.symm
  refine g_iload_n hF (by decide +kernel : decode cX4_change 8 = .ok (.iload_n 3, 1)) rfl ?_
  refine g_callS hF lkX4_55 (c_X4_checkNumber X hX _ (by omega) (by unfold num; omega) _) (by decide +kernel : decode cX4_change 9 = .ok (.invokestatic 55, 3)) (by decide) rfl rfl (Nat.le_of_ble_eq_true rfl) (fun v9 m9 h9 => ?_)
  obtain ⟨rfl, e9⟩ := h9
  obtain rfl := e9.symm
  refine g_aload_n hF (by decide +kernel : decode cX4_change 12 = .ok (.aload_n 0, 1)) rfl ?_
  refine g_iload_n hF (by decide +kernel : decode cX4_change 13 = .ok (.iload_n 1, 1)) rfl ?_
  refine g_callV hF lkX4_58 (c_X4_openToWrite X hX _ (by assumption) _ (by assumption) _ (by assumption) (by assumption)) (by decide +kernel : decode cX4_change 14 = .ok (.invokevirtual 58, 3)) (by decide) rfl rfl rfl rfl jok38 (Nat.le_of_ble_eq_true rfl) (fun v14 m14 h14 => ?_)
  obtain ⟨rfl, e14⟩ := h14
  have ks : m14 s = m s := by rw [e14]; exact keepM_row (by omega) (by omega) (by omega) (by omega)
  have kt : tok m14 s := by rw [e14]; exact (keepM_CI hC hs hs hn).1 s (by omega)
  have kr := kt.1
  have cw0 : CW m s (m s) m14 := by rw [e14]; exact CW_keep hC hs hn h0
  refine g_astore hF (by decide +kernel : decode cX4_change 17 = .ok (.astore 4, 2)) (by decide) ?_
  refine g_aload hF (by decide +kernel : decode cX4_change 19 = .ok (.aload 4, 2)) rfl ?_
  refine g_iload_n hF (by decide +kernel : decode cX4_change 21 = .ok (.iload_n 2, 1)) rfl ?_
  refine g_callV hF lkX4_62 (c_X2_at X hX _ (show s < 19 by omega) _ (by omega) _) (by decide +kernel : decode cX4_change 22 = .ok (.invokevirtual 62, 3)) (by decide) rfl rfl rfl rfl (show s < 19 by omega) (Nat.le_of_ble_eq_true rfl) (fun v22 m22 h22 => ?_)
  obtain ⟨rfl, e22⟩ := h22
  obtain rfl := e22.symm
  rw [ks]
  have hb := tat_b hr k
  refine g_istore hF (by decide +kernel : decode cX4_change 25 = .ok (.istore 5, 2)) (by decide) ?_
  refine g_iload hF (by decide +kernel : decode cX4_change 27 = .ok (.iload 5, 2)) rfl ?_
  refine g_bipush hF (by decide +kernel : decode cX4_change 29 = .ok (.bipush (-2), 2)) (by decide) ?_
  refine g_icmp_eq hF (tgt := 41) (by decide +kernel : decode cX4_change 31 = .ok (.if_icmp .eq 10, 3)) (by decide) (by omega) (by omega) (fun c31 => ?_) (fun c31 => ?_)
  · skip
    refine g_iload hF (by decide +kernel : decode cX4_change 41 = .ok (.iload 5, 2)) rfl ?_
    refine g_ireturn hF hQ (by decide +kernel : decode cX4_change 43 = .ok (.ireturn, 1)) ?_
    exact ⟨rfl, CW_if (fun _ => cw0) (fun q => absurd c31 q)⟩
  · skip
    refine g_aload hF (by decide +kernel : decode cX4_change 34 = .ok (.aload 4, 2)) rfl ?_
    refine g_iload_n hF (by decide +kernel : decode cX4_change 36 = .ok (.iload_n 2, 1)) rfl ?_
    refine g_iload_n hF (by decide +kernel : decode cX4_change 37 = .ok (.iload_n 3, 1)) rfl ?_
    refine g_callV hF lkX4_66 (c_X2_mark X hX _ (show s < 19 by omega) _ _ (by omega) (by omega) _ (by assumption)) (by decide +kernel : decode cX4_change 38 = .ok (.invokevirtual 66, 3)) (by decide) rfl rfl rfl rfl (show s < 19 by omega) (Nat.le_of_ble_eq_true rfl) (fun v38 m38 h38 => ?_)
    obtain ⟨rfl, e38⟩ := h38
    have cw : CW m s (fmark (m s) k v) m38 := by rw [e38, ks, e14]; exact CW_tset hC hs hn h0 (fmark_ok hr (by omega))
    refine g_iload hF (by decide +kernel : decode cX4_change 41 = .ok (.iload 5, 2)) rfl ?_
    refine g_ireturn hF hQ (by decide +kernel : decode cX4_change 43 = .ok (.ireturn, 1)) ?_
    exact ⟨rfl, CW_if (fun q => absurd q c31) (fun _ => cw)⟩
set_option maxHeartbeats 4000000 in
set_option maxRecDepth 100000 in
theorem c_X4_changeIf (X : jX) (hX : jxok X) (s : Nat) (hs : s < 8) (k w v : Int) (hk : num k) (hw : num w) (hv : num v) (m : jM) (hC : CI m) : Con X yX4_changeIf cX4_changeIf 7 (some .boolean) 12 [vR 2 38, vI s, vI k, vI w, vI v] m (fun o m' => o = some (vI (if tat (m s) k = w then 1 else 0)) ∧ CW m s (if tat (m s) k = w then fmark (m s) k v else m s) m') := by
  refine Con.of hX (by decide) (Nat.le_of_ble_eq_true rfl) (fun F hF hQ => ?_)
  have hr := (hC.1 s (by omega)).1
  obtain ⟨nx, hn, h0⟩ := hC.2.2.1
  unfold num at hk hv
  unfold num at hw
  refine g_iload_n hF (by decide +kernel : decode cX4_changeIf 0 = .ok (.iload_n 1, 1)) rfl ?_
  refine g_callS hF lkX4_51 (c_X4_checkSlot X hX _ (by omega) (by omega) _) (by decide +kernel : decode cX4_changeIf 1 = .ok (.invokestatic 51, 3)) (by decide) rfl rfl (Nat.le_of_ble_eq_true rfl) (fun v1 m1 h1 => ?_)
  obtain ⟨rfl, e1⟩ := h1
  obtain rfl := e1.symm
  refine g_iload_n hF (by decide +kernel : decode cX4_changeIf 4 = .ok (.iload_n 2, 1)) rfl ?_
  refine g_callS hF lkX4_55 (c_X4_checkNumber X hX _ (by omega) (by unfold num; omega) _) (by decide +kernel : decode cX4_changeIf 5 = .ok (.invokestatic 55, 3)) (by decide) rfl rfl (Nat.le_of_ble_eq_true rfl) (fun v5 m5 h5 => ?_)
  obtain ⟨rfl, e5⟩ := h5
  obtain rfl := e5.symm
  refine g_iload_n hF (by decide +kernel : decode cX4_changeIf 8 = .ok (.iload_n 3, 1)) rfl ?_
  refine g_callS hF lkX4_55 (c_X4_checkNumber X hX _ (by omega) (by unfold num; omega) _) (by decide +kernel : decode cX4_changeIf 9 = .ok (.invokestatic 55, 3)) (by decide) rfl rfl (Nat.le_of_ble_eq_true rfl) (fun v9 m9 h9 => ?_)
  obtain ⟨rfl, e9⟩ := h9
  obtain rfl := e9.symm
  refine g_iload hF (by decide +kernel : decode cX4_changeIf 12 = .ok (.iload 4, 2)) rfl ?_
  refine g_callS hF lkX4_55 (c_X4_checkNumber X hX _ (by omega) (by unfold num; omega) _) (by decide +kernel : decode cX4_changeIf 14 = .ok (.invokestatic 55, 3)) (by decide) rfl rfl (Nat.le_of_ble_eq_true rfl) (fun v14 m14 h14 => ?_)
  obtain ⟨rfl, e14⟩ := h14
  obtain rfl := e14.symm
  refine g_aload_n hF (by decide +kernel : decode cX4_changeIf 17 = .ok (.aload_n 0, 1)) rfl ?_
  refine g_iload_n hF (by decide +kernel : decode cX4_changeIf 18 = .ok (.iload_n 1, 1)) rfl ?_
  refine g_callV hF lkX4_58 (c_X4_openToWrite X hX _ (by assumption) _ (by assumption) _ (by assumption) (by assumption)) (by decide +kernel : decode cX4_changeIf 19 = .ok (.invokevirtual 58, 3)) (by decide) rfl rfl rfl rfl jok38 (Nat.le_of_ble_eq_true rfl) (fun v19 m19 h19 => ?_)
  obtain ⟨rfl, e19⟩ := h19
  have ks : m19 s = m s := by rw [e19]; exact keepM_row (by omega) (by omega) (by omega) (by omega)
  have kt : tok m19 s := by rw [e19]; exact (keepM_CI hC hs hs hn).1 s (by omega)
  have kr := kt.1
  have cw0 : CW m s (m s) m19 := by rw [e19]; exact CW_keep hC hs hn h0
  refine g_astore hF (by decide +kernel : decode cX4_changeIf 22 = .ok (.astore 5, 2)) (by decide) ?_
  refine g_aload hF (by decide +kernel : decode cX4_changeIf 24 = .ok (.aload 5, 2)) rfl ?_
  refine g_iload_n hF (by decide +kernel : decode cX4_changeIf 26 = .ok (.iload_n 2, 1)) rfl ?_
  refine g_callV hF lkX4_62 (c_X2_at X hX _ (show s < 19 by omega) _ (by omega) _) (by decide +kernel : decode cX4_changeIf 27 = .ok (.invokevirtual 62, 3)) (by decide) rfl rfl rfl rfl (show s < 19 by omega) (Nat.le_of_ble_eq_true rfl) (fun v27 m27 h27 => ?_)
  obtain ⟨rfl, e27⟩ := h27
  obtain rfl := e27.symm
  rw [ks]
  have hb := tat_b hr k
  refine g_iload_n hF (by decide +kernel : decode cX4_changeIf 30 = .ok (.iload_n 3, 1)) rfl ?_
  refine g_icmp_ne hF (tgt := 38) (by decide +kernel : decode cX4_changeIf 31 = .ok (.if_icmp .ne 7, 3)) (by decide) (by omega) (by omega) (fun c31 => ?_) (fun c31 => ?_)
  · skip
    refine g_iconst hF (by decide +kernel : decode cX4_changeIf 38 = .ok (.iconst 0, 1)) ?_
    refine g_istore hF (by decide +kernel : decode cX4_changeIf 39 = .ok (.istore 6, 2)) (by decide) ?_
    refine g_iload hF (by decide +kernel : decode cX4_changeIf 41 = .ok (.iload 6, 2)) rfl ?_
    refine g_if_eq hF (tgt := 54) (by decide +kernel : decode cX4_changeIf 43 = .ok (.ifCond .eq 11, 3)) (by decide) (by omega) (fun c43 => ?_) (fun c43 => ?_)
    · skip
      refine g_iload hF (by decide +kernel : decode cX4_changeIf 54 = .ok (.iload 6, 2)) rfl ?_
      refine g_zreturn hF hQ (by decide +kernel : decode cX4_changeIf 56 = .ok (.ireturn, 1)) (by first | exact Or.inl rfl | exact Or.inr rfl | omega) ?_
      exact ⟨by rw [if_neg c31], CW_if (fun q => absurd q c31) (fun _ => cw0)⟩
    · skip
      refine g_aload hF (by decide +kernel : decode cX4_changeIf 46 = .ok (.aload 5, 2)) rfl ?_
      refine g_iload_n hF (by decide +kernel : decode cX4_changeIf 48 = .ok (.iload_n 2, 1)) rfl ?_
      refine g_iload hF (by decide +kernel : decode cX4_changeIf 49 = .ok (.iload 4, 2)) rfl ?_
      refine g_callV hF lkX4_66 (c_X2_mark X hX _ (show s < 19 by omega) _ _ (by omega) (by omega) _ (by assumption)) (by decide +kernel : decode cX4_changeIf 51 = .ok (.invokevirtual 66, 3)) (by decide) rfl rfl rfl rfl (show s < 19 by omega) (Nat.le_of_ble_eq_true rfl) (fun v51 m51 h51 => ?_)
      obtain ⟨rfl, e51⟩ := h51
      have cw : CW m s (fmark (m s) k v) m51 := by rw [e51, ks, e19]; exact CW_tset hC hs hn h0 (fmark_ok hr (by omega))
      refine g_iload hF (by decide +kernel : decode cX4_changeIf 54 = .ok (.iload 6, 2)) rfl ?_
      refine g_zreturn hF hQ (by decide +kernel : decode cX4_changeIf 56 = .ok (.ireturn, 1)) (by first | exact Or.inl rfl | exact Or.inr rfl | omega) ?_
      exact absurd rfl c43
  · skip
    refine g_iconst hF (by decide +kernel : decode cX4_changeIf 34 = .ok (.iconst 1, 1)) ?_
    refine g_goto hF (tgt := 39) (by decide +kernel : decode cX4_changeIf 35 = .ok (.goto 4, 3)) (by decide) ?_
    refine g_istore hF (by decide +kernel : decode cX4_changeIf 39 = .ok (.istore 6, 2)) (by decide) ?_
    refine g_iload hF (by decide +kernel : decode cX4_changeIf 41 = .ok (.iload 6, 2)) rfl ?_
    refine g_if_eq hF (tgt := 54) (by decide +kernel : decode cX4_changeIf 43 = .ok (.ifCond .eq 11, 3)) (by decide) (by omega) (fun c43 => ?_) (fun c43 => ?_)
    · skip
      refine g_iload hF (by decide +kernel : decode cX4_changeIf 54 = .ok (.iload 6, 2)) rfl ?_
      refine g_zreturn hF hQ (by decide +kernel : decode cX4_changeIf 56 = .ok (.ireturn, 1)) (by first | exact Or.inl rfl | exact Or.inr rfl | omega) ?_
      exact absurd c43 (by decide)
    · skip
      refine g_aload hF (by decide +kernel : decode cX4_changeIf 46 = .ok (.aload 5, 2)) rfl ?_
      refine g_iload_n hF (by decide +kernel : decode cX4_changeIf 48 = .ok (.iload_n 2, 1)) rfl ?_
      refine g_iload hF (by decide +kernel : decode cX4_changeIf 49 = .ok (.iload 4, 2)) rfl ?_
      refine g_callV hF lkX4_66 (c_X2_mark X hX _ (show s < 19 by omega) _ _ (by omega) (by omega) _ (by assumption)) (by decide +kernel : decode cX4_changeIf 51 = .ok (.invokevirtual 66, 3)) (by decide) rfl rfl rfl rfl (show s < 19 by omega) (Nat.le_of_ble_eq_true rfl) (fun v51 m51 h51 => ?_)
      obtain ⟨rfl, e51⟩ := h51
      have cw : CW m s (fmark (m s) k v) m51 := by rw [e51, ks, e19]; exact CW_tset hC hs hn h0 (fmark_ok hr (by omega))
      refine g_iload hF (by decide +kernel : decode cX4_changeIf 54 = .ok (.iload 6, 2)) rfl ?_
      refine g_zreturn hF hQ (by decide +kernel : decode cX4_changeIf 56 = .ok (.ireturn, 1)) (by first | exact Or.inl rfl | exact Or.inr rfl | omega) ?_
      exact ⟨by rw [if_pos c31], CW_if (fun _ => cw) (fun q => absurd c31 q)⟩
set_option maxHeartbeats 4000000 in
set_option maxRecDepth 100000 in
theorem c_X4_take (X : jX) (hX : jxok X) (s : Nat) (hs : s < 8) (k : Int) (hk : num k) (m : jM) (hC : CI m) : Con X yX4_take cX4_take 5 (some .int) 12 [vR 2 38, vI s, vI k] m (fun o m' => o = some (vI (tat (m s) k)) ∧ CW m s (fmark (m s) k (-2)) m') := by
  refine Con.of hX (by decide) (Nat.le_of_ble_eq_true rfl) (fun F hF hQ => ?_)
  have hr := (hC.1 s (by omega)).1
  obtain ⟨nx, hn, h0⟩ := hC.2.2.1
  unfold num at hk
  refine g_iload_n hF (by decide +kernel : decode cX4_take 0 = .ok (.iload_n 1, 1)) rfl ?_
  refine g_callS hF lkX4_51 (c_X4_checkSlot X hX _ (by omega) (by omega) _) (by decide +kernel : decode cX4_take 1 = .ok (.invokestatic 51, 3)) (by decide) rfl rfl (Nat.le_of_ble_eq_true rfl) (fun v1 m1 h1 => ?_)
  obtain ⟨rfl, e1⟩ := h1
  obtain rfl := e1.symm
  refine g_iload_n hF (by decide +kernel : decode cX4_take 4 = .ok (.iload_n 2, 1)) rfl ?_
  refine g_callS hF lkX4_55 (c_X4_checkNumber X hX _ (by omega) (by unfold num; omega) _) (by decide +kernel : decode cX4_take 5 = .ok (.invokestatic 55, 3)) (by decide) rfl rfl (Nat.le_of_ble_eq_true rfl) (fun v5 m5 h5 => ?_)
  obtain ⟨rfl, e5⟩ := h5
  obtain rfl := e5.symm
  refine g_aload_n hF (by decide +kernel : decode cX4_take 8 = .ok (.aload_n 0, 1)) rfl ?_
  refine g_iload_n hF (by decide +kernel : decode cX4_take 9 = .ok (.iload_n 1, 1)) rfl ?_
  refine g_callV hF lkX4_58 (c_X4_openToWrite X hX _ (by assumption) _ (by assumption) _ (by assumption) (by assumption)) (by decide +kernel : decode cX4_take 10 = .ok (.invokevirtual 58, 3)) (by decide) rfl rfl rfl rfl jok38 (Nat.le_of_ble_eq_true rfl) (fun v10 m10 h10 => ?_)
  obtain ⟨rfl, e10⟩ := h10
  have ks : m10 s = m s := by rw [e10]; exact keepM_row (by omega) (by omega) (by omega) (by omega)
  have kt : tok m10 s := by rw [e10]; exact (keepM_CI hC hs hs hn).1 s (by omega)
  have kr := kt.1
  have cw0 : CW m s (m s) m10 := by rw [e10]; exact CW_keep hC hs hn h0
  refine g_astore_n hF (by decide +kernel : decode cX4_take 13 = .ok (.astore_n 3, 1)) (by decide) ?_
  refine g_aload_n hF (by decide +kernel : decode cX4_take 14 = .ok (.aload_n 3, 1)) rfl ?_
  refine g_iload_n hF (by decide +kernel : decode cX4_take 15 = .ok (.iload_n 2, 1)) rfl ?_
  refine g_callV hF lkX4_62 (c_X2_at X hX _ (show s < 19 by omega) _ (by omega) _) (by decide +kernel : decode cX4_take 16 = .ok (.invokevirtual 62, 3)) (by decide) rfl rfl rfl rfl (show s < 19 by omega) (Nat.le_of_ble_eq_true rfl) (fun v16 m16 h16 => ?_)
  obtain ⟨rfl, e16⟩ := h16
  obtain rfl := e16.symm
  rw [ks]
  have hb := tat_b hr k
  refine g_istore hF (by decide +kernel : decode cX4_take 19 = .ok (.istore 4, 2)) (by decide) ?_
  refine g_aload_n hF (by decide +kernel : decode cX4_take 21 = .ok (.aload_n 3, 1)) rfl ?_
  refine g_iload_n hF (by decide +kernel : decode cX4_take 22 = .ok (.iload_n 2, 1)) rfl ?_
  refine g_bipush hF (by decide +kernel : decode cX4_take 23 = .ok (.bipush (-2), 2)) (by decide) ?_
  refine g_callV hF lkX4_66 (c_X2_mark X hX _ (show s < 19 by omega) _ _ (by omega) (by omega) _ (by assumption)) (by decide +kernel : decode cX4_take 25 = .ok (.invokevirtual 66, 3)) (by decide) rfl rfl rfl rfl (show s < 19 by omega) (Nat.le_of_ble_eq_true rfl) (fun v25 m25 h25 => ?_)
  obtain ⟨rfl, e25⟩ := h25
  have cw : CW m s (fmark (m s) k (-2)) m25 := by rw [e25, ks, e10]; exact CW_tset hC hs hn h0 (fmark_ok hr (by omega))
  refine g_iload hF (by decide +kernel : decode cX4_take 28 = .ok (.iload 4, 2)) rfl ?_
  refine g_ireturn hF hQ (by decide +kernel : decode cX4_take 30 = .ok (.ireturn, 1)) ?_
  exact ⟨rfl, cw⟩
set_option maxHeartbeats 4000000 in
set_option maxRecDepth 100000 in
theorem c_X4_takeIf (X : jX) (hX : jxok X) (s : Nat) (hs : s < 8) (k v : Int) (hk : num k) (hv : num v) (m : jM) (hC : CI m) : Con X yX4_takeIf cX4_takeIf 6 (some .boolean) 12 [vR 2 38, vI s, vI k, vI v] m (fun o m' => o = some (vI (if tat (m s) k = v then 1 else 0)) ∧ CW m s (if tat (m s) k = v then fmark (m s) k (-2) else m s) m') := by
  refine Con.of hX (by decide) (Nat.le_of_ble_eq_true rfl) (fun F hF hQ => ?_)
  have hr := (hC.1 s (by omega)).1
  obtain ⟨nx, hn, h0⟩ := hC.2.2.1
  unfold num at hk hv
  refine g_iload_n hF (by decide +kernel : decode cX4_takeIf 0 = .ok (.iload_n 1, 1)) rfl ?_
  refine g_callS hF lkX4_51 (c_X4_checkSlot X hX _ (by omega) (by omega) _) (by decide +kernel : decode cX4_takeIf 1 = .ok (.invokestatic 51, 3)) (by decide) rfl rfl (Nat.le_of_ble_eq_true rfl) (fun v1 m1 h1 => ?_)
  obtain ⟨rfl, e1⟩ := h1
  obtain rfl := e1.symm
  refine g_iload_n hF (by decide +kernel : decode cX4_takeIf 4 = .ok (.iload_n 2, 1)) rfl ?_
  refine g_callS hF lkX4_55 (c_X4_checkNumber X hX _ (by omega) (by unfold num; omega) _) (by decide +kernel : decode cX4_takeIf 5 = .ok (.invokestatic 55, 3)) (by decide) rfl rfl (Nat.le_of_ble_eq_true rfl) (fun v5 m5 h5 => ?_)
  obtain ⟨rfl, e5⟩ := h5
  obtain rfl := e5.symm
  refine g_iload_n hF (by decide +kernel : decode cX4_takeIf 8 = .ok (.iload_n 3, 1)) rfl ?_
  refine g_callS hF lkX4_55 (c_X4_checkNumber X hX _ (by omega) (by unfold num; omega) _) (by decide +kernel : decode cX4_takeIf 9 = .ok (.invokestatic 55, 3)) (by decide) rfl rfl (Nat.le_of_ble_eq_true rfl) (fun v9 m9 h9 => ?_)
  obtain ⟨rfl, e9⟩ := h9
  obtain rfl := e9.symm
  refine g_aload_n hF (by decide +kernel : decode cX4_takeIf 12 = .ok (.aload_n 0, 1)) rfl ?_
  refine g_iload_n hF (by decide +kernel : decode cX4_takeIf 13 = .ok (.iload_n 1, 1)) rfl ?_
  refine g_callV hF lkX4_58 (c_X4_openToWrite X hX _ (by assumption) _ (by assumption) _ (by assumption) (by assumption)) (by decide +kernel : decode cX4_takeIf 14 = .ok (.invokevirtual 58, 3)) (by decide) rfl rfl rfl rfl jok38 (Nat.le_of_ble_eq_true rfl) (fun v14 m14 h14 => ?_)
  obtain ⟨rfl, e14⟩ := h14
  have ks : m14 s = m s := by rw [e14]; exact keepM_row (by omega) (by omega) (by omega) (by omega)
  have kt : tok m14 s := by rw [e14]; exact (keepM_CI hC hs hs hn).1 s (by omega)
  have kr := kt.1
  have cw0 : CW m s (m s) m14 := by rw [e14]; exact CW_keep hC hs hn h0
  refine g_astore hF (by decide +kernel : decode cX4_takeIf 17 = .ok (.astore 4, 2)) (by decide) ?_
  refine g_aload hF (by decide +kernel : decode cX4_takeIf 19 = .ok (.aload 4, 2)) rfl ?_
  refine g_iload_n hF (by decide +kernel : decode cX4_takeIf 21 = .ok (.iload_n 2, 1)) rfl ?_
  refine g_callV hF lkX4_62 (c_X2_at X hX _ (show s < 19 by omega) _ (by omega) _) (by decide +kernel : decode cX4_takeIf 22 = .ok (.invokevirtual 62, 3)) (by decide) rfl rfl rfl rfl (show s < 19 by omega) (Nat.le_of_ble_eq_true rfl) (fun v22 m22 h22 => ?_)
  obtain ⟨rfl, e22⟩ := h22
  obtain rfl := e22.symm
  rw [ks]
  have hb := tat_b hr k
  refine g_iload_n hF (by decide +kernel : decode cX4_takeIf 25 = .ok (.iload_n 3, 1)) rfl ?_
  refine g_icmp_ne hF (tgt := 33) (by decide +kernel : decode cX4_takeIf 26 = .ok (.if_icmp .ne 7, 3)) (by decide) (by omega) (by omega) (fun c26 => ?_) (fun c26 => ?_)
  · skip
    refine g_iconst hF (by decide +kernel : decode cX4_takeIf 33 = .ok (.iconst 0, 1)) ?_
    refine g_istore hF (by decide +kernel : decode cX4_takeIf 34 = .ok (.istore 5, 2)) (by decide) ?_
    refine g_iload hF (by decide +kernel : decode cX4_takeIf 36 = .ok (.iload 5, 2)) rfl ?_
    refine g_if_eq hF (tgt := 49) (by decide +kernel : decode cX4_takeIf 38 = .ok (.ifCond .eq 11, 3)) (by decide) (by omega) (fun c38 => ?_) (fun c38 => ?_)
    · skip
      refine g_iload hF (by decide +kernel : decode cX4_takeIf 49 = .ok (.iload 5, 2)) rfl ?_
      refine g_zreturn hF hQ (by decide +kernel : decode cX4_takeIf 51 = .ok (.ireturn, 1)) (by first | exact Or.inl rfl | exact Or.inr rfl | omega) ?_
      exact ⟨by rw [if_neg c26], CW_if (fun q => absurd q c26) (fun _ => cw0)⟩
    · skip
      refine g_aload hF (by decide +kernel : decode cX4_takeIf 41 = .ok (.aload 4, 2)) rfl ?_
      refine g_iload_n hF (by decide +kernel : decode cX4_takeIf 43 = .ok (.iload_n 2, 1)) rfl ?_
      refine g_bipush hF (by decide +kernel : decode cX4_takeIf 44 = .ok (.bipush (-2), 2)) (by decide) ?_
      refine g_callV hF lkX4_66 (c_X2_mark X hX _ (show s < 19 by omega) _ _ (by omega) (by omega) _ (by assumption)) (by decide +kernel : decode cX4_takeIf 46 = .ok (.invokevirtual 66, 3)) (by decide) rfl rfl rfl rfl (show s < 19 by omega) (Nat.le_of_ble_eq_true rfl) (fun v46 m46 h46 => ?_)
      obtain ⟨rfl, e46⟩ := h46
      have cw : CW m s (fmark (m s) k (-2)) m46 := by rw [e46, ks, e14]; exact CW_tset hC hs hn h0 (fmark_ok hr (by omega))
      refine g_iload hF (by decide +kernel : decode cX4_takeIf 49 = .ok (.iload 5, 2)) rfl ?_
      refine g_zreturn hF hQ (by decide +kernel : decode cX4_takeIf 51 = .ok (.ireturn, 1)) (by first | exact Or.inl rfl | exact Or.inr rfl | omega) ?_
      exact absurd rfl c38
  · skip
    refine g_iconst hF (by decide +kernel : decode cX4_takeIf 29 = .ok (.iconst 1, 1)) ?_
    refine g_goto hF (tgt := 34) (by decide +kernel : decode cX4_takeIf 30 = .ok (.goto 4, 3)) (by decide) ?_
    refine g_istore hF (by decide +kernel : decode cX4_takeIf 34 = .ok (.istore 5, 2)) (by decide) ?_
    refine g_iload hF (by decide +kernel : decode cX4_takeIf 36 = .ok (.iload 5, 2)) rfl ?_
    refine g_if_eq hF (tgt := 49) (by decide +kernel : decode cX4_takeIf 38 = .ok (.ifCond .eq 11, 3)) (by decide) (by omega) (fun c38 => ?_) (fun c38 => ?_)
    · skip
      refine g_iload hF (by decide +kernel : decode cX4_takeIf 49 = .ok (.iload 5, 2)) rfl ?_
      refine g_zreturn hF hQ (by decide +kernel : decode cX4_takeIf 51 = .ok (.ireturn, 1)) (by first | exact Or.inl rfl | exact Or.inr rfl | omega) ?_
      exact absurd c38 (by decide)
    · skip
      refine g_aload hF (by decide +kernel : decode cX4_takeIf 41 = .ok (.aload 4, 2)) rfl ?_
      refine g_iload_n hF (by decide +kernel : decode cX4_takeIf 43 = .ok (.iload_n 2, 1)) rfl ?_
      refine g_bipush hF (by decide +kernel : decode cX4_takeIf 44 = .ok (.bipush (-2), 2)) (by decide) ?_
      refine g_callV hF lkX4_66 (c_X2_mark X hX _ (show s < 19 by omega) _ _ (by omega) (by omega) _ (by assumption)) (by decide +kernel : decode cX4_takeIf 46 = .ok (.invokevirtual 66, 3)) (by decide) rfl rfl rfl rfl (show s < 19 by omega) (Nat.le_of_ble_eq_true rfl) (fun v46 m46 h46 => ?_)
      obtain ⟨rfl, e46⟩ := h46
      have cw : CW m s (fmark (m s) k (-2)) m46 := by rw [e46, ks, e14]; exact CW_tset hC hs hn h0 (fmark_ok hr (by omega))
      refine g_iload hF (by decide +kernel : decode cX4_takeIf 49 = .ok (.iload 5, 2)) rfl ?_
      refine g_zreturn hF hQ (by decide +kernel : decode cX4_takeIf 51 = .ok (.ireturn, 1)) (by first | exact Or.inl rfl | exact Or.inr rfl | omega) ?_
      exact ⟨by rw [if_pos c26], CW_if (fun _ => cw) (fun q => absurd c26 q)⟩

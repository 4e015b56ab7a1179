set_option maxHeartbeats 4000000 in
set_option maxRecDepth 100000 in
theorem c_X4_merge (X : jX) (hX : jxok X) (s : Nat) (hs : s < 8) (k v h : Int) (hk : num k) (hv : 0 ≤ v ∧ v ≤ 255) (hw : wayM h) (m : jM) (hC : CI m) : Con X yX4_merge cX4_merge 6 (some .int) 12 [vR 2 38, vI s, vI k, vI v, vI h] m (fun o m' => o = some (vI (mergeV (tat (m s) k) v h)) ∧ CW m s (fmark (m s) k (mergeV (tat (m s) k) v h)) m') := by
  refine Con.of hX (by decide) (Nat.le_of_ble_eq_true rfl) (fun F hF hQ => ?_)
  have hk2 := hk
  unfold num at hk2
  have hr := (hC.1 s (by omega)).1
  obtain ⟨nx, hn, h0⟩ := hC.2.2.1
  refine g_iload_n hF (by decide +kernel : decode cX4_merge 0 = .ok (.iload_n 1, 1)) rfl ?_
  refine g_callS hF lkX4_51 (c_X4_checkSlot X hX _ (by omega) (by omega) _) (by decide +kernel : decode cX4_merge 1 = .ok (.invokestatic 51, 3)) (by decide) rfl rfl (Nat.le_of_ble_eq_true rfl) (fun v1 m1 h1 => ?_)
  obtain ⟨rfl, e1⟩ := h1
  obtain rfl := e1.symm
  refine g_iload_n hF (by decide +kernel : decode cX4_merge 4 = .ok (.iload_n 2, 1)) rfl ?_
  refine g_callS hF lkX4_55 (c_X4_checkNumber X hX _ (by omega) (by unfold num; omega) _) (by decide +kernel : decode cX4_merge 5 = .ok (.invokestatic 55, 3)) (by decide) rfl rfl (Nat.le_of_ble_eq_true rfl) (fun v5 m5 h5 => ?_)
  obtain ⟨rfl, e5⟩ := h5
  obtain rfl := e5.symm
  refine g_iload_n hF (by decide +kernel : decode cX4_merge 8 = .ok (.iload_n 3, 1)) rfl ?_
  refine g_iconst hF (by decide +kernel : decode cX4_merge 9 = .ok (.iconst 0, 1)) ?_
  refine g_sipush hF (by decide +kernel : decode cX4_merge 10 = .ok (.sipush 255, 3)) (by decide) ?_
  refine g_callS hF lkX4_70 (c_X4_checkRange X hX _ _ _ (by omega) (by omega) (by omega) (by omega) _) (by decide +kernel : decode cX4_merge 13 = .ok (.invokestatic 70, 3)) (by decide) rfl rfl (Nat.le_of_ble_eq_true rfl) (fun v13 m13 h13 => ?_)
  obtain ⟨rfl, e13⟩ := h13
  obtain rfl := e13.symm
  refine g_iload hF (by decide +kernel : decode cX4_merge 16 = .ok (.iload 4, 2)) rfl ?_
  refine g_bipush hF (by decide +kernel : decode cX4_merge 18 = .ok (.bipush 43, 2)) (by decide) ?_
  refine g_icmp_eq hF (tgt := 37) (by decide +kernel : decode cX4_merge 20 = .ok (.if_icmp .eq 17, 3)) (by decide) (by omega) (by omega) (fun c20 => ?_) (fun c20 => ?_)
  · skip
    refine g_iconst hF (by decide +kernel : decode cX4_merge 37 = .ok (.iconst 1, 1)) ?_
    refine g_goto hF (tgt := 42) (by decide +kernel : decode cX4_merge 38 = .ok (.goto 4, 3)) (by decide) ?_
    refine g_callS hF lkX4_74 (c_X4_checkWay X hX _ (by omega) (by omega) _) (by decide +kernel : decode cX4_merge 42 = .ok (.invokestatic 74, 3)) (by decide) rfl rfl (Nat.le_of_ble_eq_true rfl) (fun v42 m42 h42 => ?_)
    obtain ⟨rfl, e42⟩ := h42
    obtain rfl := e42.symm
    refine g_aload_n hF (by decide +kernel : decode cX4_merge 45 = .ok (.aload_n 0, 1)) rfl ?_
    refine g_iload_n hF (by decide +kernel : decode cX4_merge 46 = .ok (.iload_n 1, 1)) rfl ?_
    refine g_callV hF lkX4_58 (c_X4_openToWrite X hX _ (by assumption) _ (by assumption) _ (by assumption) (by assumption)) (by decide +kernel : decode cX4_merge 47 = .ok (.invokevirtual 58, 3)) (by decide) rfl rfl rfl rfl jok38 (Nat.le_of_ble_eq_true rfl) (fun v47 m47 h47 => ?_)
    obtain ⟨rfl, e47⟩ := h47
    have ks : m47 s = m s := by rw [e47]; exact keepM_row (by omega) (by omega) (by omega) (by omega)
    have kt : tok m47 s := by rw [e47]; exact (keepM_CI hC hs hs hn).1 s (by omega)
    have kr := kt.1
    have cw0 : CW m s (m s) m47 := by rw [e47]; exact CW_keep hC hs hn h0
    refine g_astore hF (by decide +kernel : decode cX4_merge 50 = .ok (.astore 5, 2)) (by decide) ?_
    refine g_aload hF (by decide +kernel : decode cX4_merge 52 = .ok (.aload 5, 2)) rfl ?_
    refine g_iload_n hF (by decide +kernel : decode cX4_merge 54 = .ok (.iload_n 2, 1)) rfl ?_
    refine g_aload hF (by decide +kernel : decode cX4_merge 55 = .ok (.aload 5, 2)) rfl ?_
    refine g_iload_n hF (by decide +kernel : decode cX4_merge 57 = .ok (.iload_n 2, 1)) rfl ?_
    refine g_callV hF lkX4_62 (c_X2_at X hX _ (show s < 19 by omega) _ (by omega) _) (by decide +kernel : decode cX4_merge 58 = .ok (.invokevirtual 62, 3)) (by decide) rfl rfl rfl rfl (show s < 19 by omega) (Nat.le_of_ble_eq_true rfl) (fun v58 m58 h58 => ?_)
    obtain ⟨rfl, e58⟩ := h58
    obtain rfl := e58.symm
    rw [ks]
    have hb := tat_b hr k
    refine g_iload_n hF (by decide +kernel : decode cX4_merge 61 = .ok (.iload_n 3, 1)) rfl ?_
    refine g_iload hF (by decide +kernel : decode cX4_merge 62 = .ok (.iload 4, 2)) rfl ?_
    refine g_callS hF lkX4_78 (c_X4_merged X hX _ _ _ (by omega) (by omega) (by omega) _) (by decide +kernel : decode cX4_merge 64 = .ok (.invokestatic 78, 3)) (by decide) rfl rfl (Nat.le_of_ble_eq_true rfl) (fun v64 m64 h64 => ?_)
    obtain ⟨rfl, e64⟩ := h64
    obtain rfl := e64.symm
    refine g_callV hF lkX4_66 (c_X2_mark X hX _ (show s < 19 by omega) _ _ (by omega) (mergeV_b hb (by omega)) _ kt) (by decide +kernel : decode cX4_merge 67 = .ok (.invokevirtual 66, 3)) (by decide) rfl rfl rfl rfl (show s < 19 by omega) (Nat.le_of_ble_eq_true rfl) (fun v67 m67 h67 => ?_)
    obtain ⟨rfl, e67⟩ := h67
    have cw : CW m s (fmark (m s) k (mergeV (tat (m s) k) v h)) m67 := by rw [e67, ks, e47]; exact CW_tset hC hs hn h0 (fmark_ok hr (mergeV_b hb (by omega)))
    have r67 : tat (m67 s) k = mergeV (tat (m s) k) v h := by rw [e67, tset_at, fmark_at hk]
    refine g_aload hF (by decide +kernel : decode cX4_merge 70 = .ok (.aload 5, 2)) rfl ?_
    refine g_iload_n hF (by decide +kernel : decode cX4_merge 72 = .ok (.iload_n 2, 1)) rfl ?_
    refine g_callV hF lkX4_62 (c_X2_at X hX _ (show s < 19 by omega) _ (by omega) _) (by decide +kernel : decode cX4_merge 73 = .ok (.invokevirtual 62, 3)) (by decide) rfl rfl rfl rfl (show s < 19 by omega) (Nat.le_of_ble_eq_true rfl) (fun v73 m73 h73 => ?_)
    obtain ⟨rfl, e73⟩ := h73
    obtain rfl := e73.symm
    rw [r67]
    refine g_ireturn hF hQ (by decide +kernel : decode cX4_merge 76 = .ok (.ireturn, 1)) ?_
    exact ⟨rfl, cw⟩
  · skip
    refine g_iload hF (by decide +kernel : decode cX4_merge 23 = .ok (.iload 4, 2)) rfl ?_
    refine g_bipush hF (by decide +kernel : decode cX4_merge 25 = .ok (.bipush 62, 2)) (by decide) ?_
    refine g_icmp_eq hF (tgt := 37) (by decide +kernel : decode cX4_merge 27 = .ok (.if_icmp .eq 10, 3)) (by decide) (by omega) (by omega) (fun c27 => ?_) (fun c27 => ?_)
    · skip
      refine g_iconst hF (by decide +kernel : decode cX4_merge 37 = .ok (.iconst 1, 1)) ?_
      refine g_goto hF (tgt := 42) (by decide +kernel : decode cX4_merge 38 = .ok (.goto 4, 3)) (by decide) ?_
      refine g_callS hF lkX4_74 (c_X4_checkWay X hX _ (by omega) (by omega) _) (by decide +kernel : decode cX4_merge 42 = .ok (.invokestatic 74, 3)) (by decide) rfl rfl (Nat.le_of_ble_eq_true rfl) (fun v42 m42 h42 => ?_)
      obtain ⟨rfl, e42⟩ := h42
      obtain rfl := e42.symm
      refine g_aload_n hF (by decide +kernel : decode cX4_merge 45 = .ok (.aload_n 0, 1)) rfl ?_
      refine g_iload_n hF (by decide +kernel : decode cX4_merge 46 = .ok (.iload_n 1, 1)) rfl ?_
      refine g_callV hF lkX4_58 (c_X4_openToWrite X hX _ (by assumption) _ (by assumption) _ (by assumption) (by assumption)) (by decide +kernel : decode cX4_merge 47 = .ok (.invokevirtual 58, 3)) (by decide) rfl rfl rfl rfl jok38 (Nat.le_of_ble_eq_true rfl) (fun v47 m47 h47 => ?_)
      obtain ⟨rfl, e47⟩ := h47
      have ks : m47 s = m s := by rw [e47]; exact keepM_row (by omega) (by omega) (by omega) (by omega)
      have kt : tok m47 s := by rw [e47]; exact (keepM_CI hC hs hs hn).1 s (by omega)
      have kr := kt.1
      have cw0 : CW m s (m s) m47 := by rw [e47]; exact CW_keep hC hs hn h0
      refine g_astore hF (by decide +kernel : decode cX4_merge 50 = .ok (.astore 5, 2)) (by decide) ?_
      refine g_aload hF (by decide +kernel : decode cX4_merge 52 = .ok (.aload 5, 2)) rfl ?_
      refine g_iload_n hF (by decide +kernel : decode cX4_merge 54 = .ok (.iload_n 2, 1)) rfl ?_
      refine g_aload hF (by decide +kernel : decode cX4_merge 55 = .ok (.aload 5, 2)) rfl ?_
      refine g_iload_n hF (by decide +kernel : decode cX4_merge 57 = .ok (.iload_n 2, 1)) rfl ?_
      refine g_callV hF lkX4_62 (c_X2_at X hX _ (show s < 19 by omega) _ (by omega) _) (by decide +kernel : decode cX4_merge 58 = .ok (.invokevirtual 62, 3)) (by decide) rfl rfl rfl rfl (show s < 19 by omega) (Nat.le_of_ble_eq_true rfl) (fun v58 m58 h58 => ?_)
      obtain ⟨rfl, e58⟩ := h58
      obtain rfl := e58.symm
      rw [ks]
      have hb := tat_b hr k
      refine g_iload_n hF (by decide +kernel : decode cX4_merge 61 = .ok (.iload_n 3, 1)) rfl ?_
      refine g_iload hF (by decide +kernel : decode cX4_merge 62 = .ok (.iload 4, 2)) rfl ?_
      refine g_callS hF lkX4_78 (c_X4_merged X hX _ _ _ (by omega) (by omega) (by omega) _) (by decide +kernel : decode cX4_merge 64 = .ok (.invokestatic 78, 3)) (by decide) rfl rfl (Nat.le_of_ble_eq_true rfl) (fun v64 m64 h64 => ?_)
      obtain ⟨rfl, e64⟩ := h64
      obtain rfl := e64.symm
      refine g_callV hF lkX4_66 (c_X2_mark X hX _ (show s < 19 by omega) _ _ (by omega) (mergeV_b hb (by omega)) _ kt) (by decide +kernel : decode cX4_merge 67 = .ok (.invokevirtual 66, 3)) (by decide) rfl rfl rfl rfl (show s < 19 by omega) (Nat.le_of_ble_eq_true rfl) (fun v67 m67 h67 => ?_)
      obtain ⟨rfl, e67⟩ := h67
      have cw : CW m s (fmark (m s) k (mergeV (tat (m s) k) v h)) m67 := by rw [e67, ks, e47]; exact CW_tset hC hs hn h0 (fmark_ok hr (mergeV_b hb (by omega)))
      have r67 : tat (m67 s) k = mergeV (tat (m s) k) v h := by rw [e67, tset_at, fmark_at hk]
      refine g_aload hF (by decide +kernel : decode cX4_merge 70 = .ok (.aload 5, 2)) rfl ?_
      refine g_iload_n hF (by decide +kernel : decode cX4_merge 72 = .ok (.iload_n 2, 1)) rfl ?_
      refine g_callV hF lkX4_62 (c_X2_at X hX _ (show s < 19 by omega) _ (by omega) _) (by decide +kernel : decode cX4_merge 73 = .ok (.invokevirtual 62, 3)) (by decide) rfl rfl rfl rfl (show s < 19 by omega) (Nat.le_of_ble_eq_true rfl) (fun v73 m73 h73 => ?_)
      obtain ⟨rfl, e73⟩ := h73
      obtain rfl := e73.symm
      rw [r67]
      refine g_ireturn hF hQ (by decide +kernel : decode cX4_merge 76 = .ok (.ireturn, 1)) ?_
      exact ⟨rfl, cw⟩
    · skip
      refine g_iload hF (by decide +kernel : decode cX4_merge 30 = .ok (.iload 4, 2)) rfl ?_
      refine g_bipush hF (by decide +kernel : decode cX4_merge 32 = .ok (.bipush 120, 2)) (by decide) ?_
      refine g_icmp_ne hF (tgt := 41) (by decide +kernel : decode cX4_merge 34 = .ok (.if_icmp .ne 7, 3)) (by decide) (by omega) (by omega) (fun c34 => ?_) (fun c34 => ?_)
      · skip
        exact absurd hw (by omega)
      · skip
        refine g_iconst hF (by decide +kernel : decode cX4_merge 37 = .ok (.iconst 1, 1)) ?_
        refine g_goto hF (tgt := 42) (by decide +kernel : decode cX4_merge 38 = .ok (.goto 4, 3)) (by decide) ?_
        refine g_callS hF lkX4_74 (c_X4_checkWay X hX _ (by omega) (by omega) _) (by decide +kernel : decode cX4_merge 42 = .ok (.invokestatic 74, 3)) (by decide) rfl rfl (Nat.le_of_ble_eq_true rfl) (fun v42 m42 h42 => ?_)
        obtain ⟨rfl, e42⟩ := h42
        obtain rfl := e42.symm
        refine g_aload_n hF (by decide +kernel : decode cX4_merge 45 = .ok (.aload_n 0, 1)) rfl ?_
        refine g_iload_n hF (by decide +kernel : decode cX4_merge 46 = .ok (.iload_n 1, 1)) rfl ?_
        refine g_callV hF lkX4_58 (c_X4_openToWrite X hX _ (by assumption) _ (by assumption) _ (by assumption) (by assumption)) (by decide +kernel : decode cX4_merge 47 = .ok (.invokevirtual 58, 3)) (by decide) rfl rfl rfl rfl jok38 (Nat.le_of_ble_eq_true rfl) (fun v47 m47 h47 => ?_)
        obtain ⟨rfl, e47⟩ := h47
        have ks : m47 s = m s := by rw [e47]; exact keepM_row (by omega) (by omega) (by omega) (by omega)
        have kt : tok m47 s := by rw [e47]; exact (keepM_CI hC hs hs hn).1 s (by omega)
        have kr := kt.1
        have cw0 : CW m s (m s) m47 := by rw [e47]; exact CW_keep hC hs hn h0
        refine g_astore hF (by decide +kernel : decode cX4_merge 50 = .ok (.astore 5, 2)) (by decide) ?_
        refine g_aload hF (by decide +kernel : decode cX4_merge 52 = .ok (.aload 5, 2)) rfl ?_
        refine g_iload_n hF (by decide +kernel : decode cX4_merge 54 = .ok (.iload_n 2, 1)) rfl ?_
        refine g_aload hF (by decide +kernel : decode cX4_merge 55 = .ok (.aload 5, 2)) rfl ?_
        refine g_iload_n hF (by decide +kernel : decode cX4_merge 57 = .ok (.iload_n 2, 1)) rfl ?_
        refine g_callV hF lkX4_62 (c_X2_at X hX _ (show s < 19 by omega) _ (by omega) _) (by decide +kernel : decode cX4_merge 58 = .ok (.invokevirtual 62, 3)) (by decide) rfl rfl rfl rfl (show s < 19 by omega) (Nat.le_of_ble_eq_true rfl) (fun v58 m58 h58 => ?_)
        obtain ⟨rfl, e58⟩ := h58
        obtain rfl := e58.symm
        rw [ks]
        have hb := tat_b hr k
        refine g_iload_n hF (by decide +kernel : decode cX4_merge 61 = .ok (.iload_n 3, 1)) rfl ?_
        refine g_iload hF (by decide +kernel : decode cX4_merge 62 = .ok (.iload 4, 2)) rfl ?_
        refine g_callS hF lkX4_78 (c_X4_merged X hX _ _ _ (by omega) (by omega) (by omega) _) (by decide +kernel : decode cX4_merge 64 = .ok (.invokestatic 78, 3)) (by decide) rfl rfl (Nat.le_of_ble_eq_true rfl) (fun v64 m64 h64 => ?_)
        obtain ⟨rfl, e64⟩ := h64
        obtain rfl := e64.symm
        refine g_callV hF lkX4_66 (c_X2_mark X hX _ (show s < 19 by omega) _ _ (by omega) (mergeV_b hb (by omega)) _ kt) (by decide +kernel : decode cX4_merge 67 = .ok (.invokevirtual 66, 3)) (by decide) rfl rfl rfl rfl (show s < 19 by omega) (Nat.le_of_ble_eq_true rfl) (fun v67 m67 h67 => ?_)
        obtain ⟨rfl, e67⟩ := h67
        have cw : CW m s (fmark (m s) k (mergeV (tat (m s) k) v h)) m67 := by rw [e67, ks, e47]; exact CW_tset hC hs hn h0 (fmark_ok hr (mergeV_b hb (by omega)))
        have r67 : tat (m67 s) k = mergeV (tat (m s) k) v h := by rw [e67, tset_at, fmark_at hk]
        refine g_aload hF (by decide +kernel : decode cX4_merge 70 = .ok (.aload 5, 2)) rfl ?_
        refine g_iload_n hF (by decide +kernel : decode cX4_merge 72 = .ok (.iload_n 2, 1)) rfl ?_
        refine g_callV hF lkX4_62 (c_X2_at X hX _ (show s < 19 by omega) _ (by omega) _) (by decide +kernel : decode cX4_merge 73 = .ok (.invokevirtual 62, 3)) (by decide) rfl rfl rfl rfl (show s < 19 by omega) (Nat.le_of_ble_eq_true rfl) (fun v73 m73 h73 => ?_)
        obtain ⟨rfl, e73⟩ := h73
        obtain rfl := e73.symm
        rw [r67]
        refine g_ireturn hF hQ (by decide +kernel : decode cX4_merge 76 = .ok (.ireturn, 1)) ?_
        exact ⟨rfl, cw⟩
set_option maxHeartbeats 4000000 in
set_option maxRecDepth 100000 in
theorem c_X4_compute (X : jX) (hX : jxok X) (s : Nat) (hs : s < 8) (k h : Int) (hk : num k) (hw : wayC h) (m : jM) (hC : CI m) : Con X yX4_compute cX4_compute 5 (some .int) 12 [vR 2 38, vI s, vI k, vI h] m (fun o m' => o = some (vI (computeV (tat (m s) k) k h)) ∧ CW m s (fmark (m s) k (computeV (tat (m s) k) k h)) m') := by
  refine Con.of hX (by decide) (Nat.le_of_ble_eq_true rfl) (fun F hF hQ => ?_)
  have hk2 := hk
  unfold num at hk2
  have hr := (hC.1 s (by omega)).1
  obtain ⟨nx, hn, h0⟩ := hC.2.2.1
  refine g_iload_n hF (by decide +kernel : decode cX4_compute 0 = .ok (.iload_n 1, 1)) rfl ?_
  refine g_callS hF lkX4_51 (c_X4_checkSlot X hX _ (by omega) (by omega) _) (by decide +kernel : decode cX4_compute 1 = .ok (.invokestatic 51, 3)) (by decide) rfl rfl (Nat.le_of_ble_eq_true rfl) (fun v1 m1 h1 => ?_)
  obtain ⟨rfl, e1⟩ := h1
  obtain rfl := e1.symm
  refine g_iload_n hF (by decide +kernel : decode cX4_compute 4 = .ok (.iload_n 2, 1)) rfl ?_
  refine g_callS hF lkX4_55 (c_X4_checkNumber X hX _ (by omega) (by unfold num; omega) _) (by decide +kernel : decode cX4_compute 5 = .ok (.invokestatic 55, 3)) (by decide) rfl rfl (Nat.le_of_ble_eq_true rfl) (fun v5 m5 h5 => ?_)
  obtain ⟨rfl, e5⟩ := h5
  obtain rfl := e5.symm
  refine g_iload_n hF (by decide +kernel : decode cX4_compute 8 = .ok (.iload_n 3, 1)) rfl ?_
  refine g_bipush hF (by decide +kernel : decode cX4_compute 9 = .ok (.bipush 105, 2)) (by decide) ?_
  refine g_icmp_eq hF (tgt := 32) (by decide +kernel : decode cX4_compute 11 = .ok (.if_icmp .eq 21, 3)) (by decide) (by omega) (by omega) (fun c11 => ?_) (fun c11 => ?_)
  · skip
    refine g_iconst hF (by decide +kernel : decode cX4_compute 32 = .ok (.iconst 1, 1)) ?_
    refine g_goto hF (tgt := 37) (by decide +kernel : decode cX4_compute 33 = .ok (.goto 4, 3)) (by decide) ?_
    refine g_callS hF lkX4_74 (c_X4_checkWay X hX _ (by omega) (by omega) _) (by decide +kernel : decode cX4_compute 37 = .ok (.invokestatic 74, 3)) (by decide) rfl rfl (Nat.le_of_ble_eq_true rfl) (fun v37 m37 h37 => ?_)
    obtain ⟨rfl, e37⟩ := h37
    obtain rfl := e37.symm
    refine g_aload_n hF (by decide +kernel : decode cX4_compute 40 = .ok (.aload_n 0, 1)) rfl ?_
    refine g_iload_n hF (by decide +kernel : decode cX4_compute 41 = .ok (.iload_n 1, 1)) rfl ?_
    refine g_callV hF lkX4_58 (c_X4_openToWrite X hX _ (by assumption) _ (by assumption) _ (by assumption) (by assumption)) (by decide +kernel : decode cX4_compute 42 = .ok (.invokevirtual 58, 3)) (by decide) rfl rfl rfl rfl jok38 (Nat.le_of_ble_eq_true rfl) (fun v42 m42 h42 => ?_)
    obtain ⟨rfl, e42⟩ := h42
    have ks : m42 s = m s := by rw [e42]; exact keepM_row (by omega) (by omega) (by omega) (by omega)
    have kt : tok m42 s := by rw [e42]; exact (keepM_CI hC hs hs hn).1 s (by omega)
    have kr := kt.1
    have cw0 : CW m s (m s) m42 := by rw [e42]; exact CW_keep hC hs hn h0
    refine g_astore hF (by decide +kernel : decode cX4_compute 45 = .ok (.astore 4, 2)) (by decide) ?_
    refine g_aload hF (by decide +kernel : decode cX4_compute 47 = .ok (.aload 4, 2)) rfl ?_
    refine g_iload_n hF (by decide +kernel : decode cX4_compute 49 = .ok (.iload_n 2, 1)) rfl ?_
    refine g_aload hF (by decide +kernel : decode cX4_compute 50 = .ok (.aload 4, 2)) rfl ?_
    refine g_iload_n hF (by decide +kernel : decode cX4_compute 52 = .ok (.iload_n 2, 1)) rfl ?_
    refine g_callV hF lkX4_62 (c_X2_at X hX _ (show s < 19 by omega) _ (by omega) _) (by decide +kernel : decode cX4_compute 53 = .ok (.invokevirtual 62, 3)) (by decide) rfl rfl rfl rfl (show s < 19 by omega) (Nat.le_of_ble_eq_true rfl) (fun v53 m53 h53 => ?_)
    obtain ⟨rfl, e53⟩ := h53
    obtain rfl := e53.symm
    rw [ks]
    have hb := tat_b hr k
    refine g_iload_n hF (by decide +kernel : decode cX4_compute 56 = .ok (.iload_n 2, 1)) rfl ?_
    refine g_iload_n hF (by decide +kernel : decode cX4_compute 57 = .ok (.iload_n 3, 1)) rfl ?_
    refine g_callS hF lkX4_82 (c_X4_computed X hX _ _ _ (by omega) (by assumption) (by omega) _) (by decide +kernel : decode cX4_compute 58 = .ok (.invokestatic 82, 3)) (by decide) rfl rfl (Nat.le_of_ble_eq_true rfl) (fun v58 m58 h58 => ?_)
    obtain ⟨rfl, e58⟩ := h58
    obtain rfl := e58.symm
    refine g_callV hF lkX4_66 (c_X2_mark X hX _ (show s < 19 by omega) _ _ (by omega) (computeV_b hb hk) _ kt) (by decide +kernel : decode cX4_compute 61 = .ok (.invokevirtual 66, 3)) (by decide) rfl rfl rfl rfl (show s < 19 by omega) (Nat.le_of_ble_eq_true rfl) (fun v61 m61 h61 => ?_)
    obtain ⟨rfl, e61⟩ := h61
    have cw : CW m s (fmark (m s) k (computeV (tat (m s) k) k h)) m61 := by rw [e61, ks, e42]; exact CW_tset hC hs hn h0 (fmark_ok hr (computeV_b hb hk))
    have r61 : tat (m61 s) k = computeV (tat (m s) k) k h := by rw [e61, tset_at, fmark_at hk]
    refine g_aload hF (by decide +kernel : decode cX4_compute 64 = .ok (.aload 4, 2)) rfl ?_
    refine g_iload_n hF (by decide +kernel : decode cX4_compute 66 = .ok (.iload_n 2, 1)) rfl ?_
    refine g_callV hF lkX4_62 (c_X2_at X hX _ (show s < 19 by omega) _ (by omega) _) (by decide +kernel : decode cX4_compute 67 = .ok (.invokevirtual 62, 3)) (by decide) rfl rfl rfl rfl (show s < 19 by omega) (Nat.le_of_ble_eq_true rfl) (fun v67 m67 h67 => ?_)
    obtain ⟨rfl, e67⟩ := h67
    obtain rfl := e67.symm
    rw [r61]
    refine g_ireturn hF hQ (by decide +kernel : decode cX4_compute 70 = .ok (.ireturn, 1)) ?_
    exact ⟨rfl, cw⟩
  · skip
    refine g_iload_n hF (by decide +kernel : decode cX4_compute 14 = .ok (.iload_n 3, 1)) rfl ?_
    refine g_bipush hF (by decide +kernel : decode cX4_compute 15 = .ok (.bipush 100, 2)) (by decide) ?_
    refine g_icmp_eq hF (tgt := 32) (by decide +kernel : decode cX4_compute 17 = .ok (.if_icmp .eq 15, 3)) (by decide) (by omega) (by omega) (fun c17 => ?_) (fun c17 => ?_)
    · skip
      refine g_iconst hF (by decide +kernel : decode cX4_compute 32 = .ok (.iconst 1, 1)) ?_
      refine g_goto hF (tgt := 37) (by decide +kernel : decode cX4_compute 33 = .ok (.goto 4, 3)) (by decide) ?_
      refine g_callS hF lkX4_74 (c_X4_checkWay X hX _ (by omega) (by omega) _) (by decide +kernel : decode cX4_compute 37 = .ok (.invokestatic 74, 3)) (by decide) rfl rfl (Nat.le_of_ble_eq_true rfl) (fun v37 m37 h37 => ?_)
      obtain ⟨rfl, e37⟩ := h37
      obtain rfl := e37.symm
      refine g_aload_n hF (by decide +kernel : decode cX4_compute 40 = .ok (.aload_n 0, 1)) rfl ?_
      refine g_iload_n hF (by decide +kernel : decode cX4_compute 41 = .ok (.iload_n 1, 1)) rfl ?_
      refine g_callV hF lkX4_58 (c_X4_openToWrite X hX _ (by assumption) _ (by assumption) _ (by assumption) (by assumption)) (by decide +kernel : decode cX4_compute 42 = .ok (.invokevirtual 58, 3)) (by decide) rfl rfl rfl rfl jok38 (Nat.le_of_ble_eq_true rfl) (fun v42 m42 h42 => ?_)
      obtain ⟨rfl, e42⟩ := h42
      have ks : m42 s = m s := by rw [e42]; exact keepM_row (by omega) (by omega) (by omega) (by omega)
      have kt : tok m42 s := by rw [e42]; exact (keepM_CI hC hs hs hn).1 s (by omega)
      have kr := kt.1
      have cw0 : CW m s (m s) m42 := by rw [e42]; exact CW_keep hC hs hn h0
      refine g_astore hF (by decide +kernel : decode cX4_compute 45 = .ok (.astore 4, 2)) (by decide) ?_
      refine g_aload hF (by decide +kernel : decode cX4_compute 47 = .ok (.aload 4, 2)) rfl ?_
      refine g_iload_n hF (by decide +kernel : decode cX4_compute 49 = .ok (.iload_n 2, 1)) rfl ?_
      refine g_aload hF (by decide +kernel : decode cX4_compute 50 = .ok (.aload 4, 2)) rfl ?_
      refine g_iload_n hF (by decide +kernel : decode cX4_compute 52 = .ok (.iload_n 2, 1)) rfl ?_
      refine g_callV hF lkX4_62 (c_X2_at X hX _ (show s < 19 by omega) _ (by omega) _) (by decide +kernel : decode cX4_compute 53 = .ok (.invokevirtual 62, 3)) (by decide) rfl rfl rfl rfl (show s < 19 by omega) (Nat.le_of_ble_eq_true rfl) (fun v53 m53 h53 => ?_)
      obtain ⟨rfl, e53⟩ := h53
      obtain rfl := e53.symm
      rw [ks]
      have hb := tat_b hr k
      refine g_iload_n hF (by decide +kernel : decode cX4_compute 56 = .ok (.iload_n 2, 1)) rfl ?_
      refine g_iload_n hF (by decide +kernel : decode cX4_compute 57 = .ok (.iload_n 3, 1)) rfl ?_
      refine g_callS hF lkX4_82 (c_X4_computed X hX _ _ _ (by omega) (by assumption) (by omega) _) (by decide +kernel : decode cX4_compute 58 = .ok (.invokestatic 82, 3)) (by decide) rfl rfl (Nat.le_of_ble_eq_true rfl) (fun v58 m58 h58 => ?_)
      obtain ⟨rfl, e58⟩ := h58
      obtain rfl := e58.symm
      refine g_callV hF lkX4_66 (c_X2_mark X hX _ (show s < 19 by omega) _ _ (by omega) (computeV_b hb hk) _ kt) (by decide +kernel : decode cX4_compute 61 = .ok (.invokevirtual 66, 3)) (by decide) rfl rfl rfl rfl (show s < 19 by omega) (Nat.le_of_ble_eq_true rfl) (fun v61 m61 h61 => ?_)
      obtain ⟨rfl, e61⟩ := h61
      have cw : CW m s (fmark (m s) k (computeV (tat (m s) k) k h)) m61 := by rw [e61, ks, e42]; exact CW_tset hC hs hn h0 (fmark_ok hr (computeV_b hb hk))
      have r61 : tat (m61 s) k = computeV (tat (m s) k) k h := by rw [e61, tset_at, fmark_at hk]
      refine g_aload hF (by decide +kernel : decode cX4_compute 64 = .ok (.aload 4, 2)) rfl ?_
      refine g_iload_n hF (by decide +kernel : decode cX4_compute 66 = .ok (.iload_n 2, 1)) rfl ?_
      refine g_callV hF lkX4_62 (c_X2_at X hX _ (show s < 19 by omega) _ (by omega) _) (by decide +kernel : decode cX4_compute 67 = .ok (.invokevirtual 62, 3)) (by decide) rfl rfl rfl rfl (show s < 19 by omega) (Nat.le_of_ble_eq_true rfl) (fun v67 m67 h67 => ?_)
      obtain ⟨rfl, e67⟩ := h67
      obtain rfl := e67.symm
      rw [r61]
      refine g_ireturn hF hQ (by decide +kernel : decode cX4_compute 70 = .ok (.ireturn, 1)) ?_
      exact ⟨rfl, cw⟩
    · skip
      refine g_iload_n hF (by decide +kernel : decode cX4_compute 20 = .ok (.iload_n 3, 1)) rfl ?_
      refine g_bipush hF (by decide +kernel : decode cX4_compute 21 = .ok (.bipush 102, 2)) (by decide) ?_
      refine g_icmp_eq hF (tgt := 32) (by decide +kernel : decode cX4_compute 23 = .ok (.if_icmp .eq 9, 3)) (by decide) (by omega) (by omega) (fun c23 => ?_) (fun c23 => ?_)
      · skip
        refine g_iconst hF (by decide +kernel : decode cX4_compute 32 = .ok (.iconst 1, 1)) ?_
        refine g_goto hF (tgt := 37) (by decide +kernel : decode cX4_compute 33 = .ok (.goto 4, 3)) (by decide) ?_
        refine g_callS hF lkX4_74 (c_X4_checkWay X hX _ (by omega) (by omega) _) (by decide +kernel : decode cX4_compute 37 = .ok (.invokestatic 74, 3)) (by decide) rfl rfl (Nat.le_of_ble_eq_true rfl) (fun v37 m37 h37 => ?_)
        obtain ⟨rfl, e37⟩ := h37
        obtain rfl := e37.symm
        refine g_aload_n hF (by decide +kernel : decode cX4_compute 40 = .ok (.aload_n 0, 1)) rfl ?_
        refine g_iload_n hF (by decide +kernel : decode cX4_compute 41 = .ok (.iload_n 1, 1)) rfl ?_
        refine g_callV hF lkX4_58 (c_X4_openToWrite X hX _ (by assumption) _ (by assumption) _ (by assumption) (by assumption)) (by decide +kernel : decode cX4_compute 42 = .ok (.invokevirtual 58, 3)) (by decide) rfl rfl rfl rfl jok38 (Nat.le_of_ble_eq_true rfl) (fun v42 m42 h42 => ?_)
        obtain ⟨rfl, e42⟩ := h42
        have ks : m42 s = m s := by rw [e42]; exact keepM_row (by omega) (by omega) (by omega) (by omega)
        have kt : tok m42 s := by rw [e42]; exact (keepM_CI hC hs hs hn).1 s (by omega)
        have kr := kt.1
        have cw0 : CW m s (m s) m42 := by rw [e42]; exact CW_keep hC hs hn h0
        refine g_astore hF (by decide +kernel : decode cX4_compute 45 = .ok (.astore 4, 2)) (by decide) ?_
        refine g_aload hF (by decide +kernel : decode cX4_compute 47 = .ok (.aload 4, 2)) rfl ?_
        refine g_iload_n hF (by decide +kernel : decode cX4_compute 49 = .ok (.iload_n 2, 1)) rfl ?_
        refine g_aload hF (by decide +kernel : decode cX4_compute 50 = .ok (.aload 4, 2)) rfl ?_
        refine g_iload_n hF (by decide +kernel : decode cX4_compute 52 = .ok (.iload_n 2, 1)) rfl ?_
        refine g_callV hF lkX4_62 (c_X2_at X hX _ (show s < 19 by omega) _ (by omega) _) (by decide +kernel : decode cX4_compute 53 = .ok (.invokevirtual 62, 3)) (by decide) rfl rfl rfl rfl (show s < 19 by omega) (Nat.le_of_ble_eq_true rfl) (fun v53 m53 h53 => ?_)
        obtain ⟨rfl, e53⟩ := h53
        obtain rfl := e53.symm
        rw [ks]
        have hb := tat_b hr k
        refine g_iload_n hF (by decide +kernel : decode cX4_compute 56 = .ok (.iload_n 2, 1)) rfl ?_
        refine g_iload_n hF (by decide +kernel : decode cX4_compute 57 = .ok (.iload_n 3, 1)) rfl ?_
        refine g_callS hF lkX4_82 (c_X4_computed X hX _ _ _ (by omega) (by assumption) (by omega) _) (by decide +kernel : decode cX4_compute 58 = .ok (.invokestatic 82, 3)) (by decide) rfl rfl (Nat.le_of_ble_eq_true rfl) (fun v58 m58 h58 => ?_)
        obtain ⟨rfl, e58⟩ := h58
        obtain rfl := e58.symm
        refine g_callV hF lkX4_66 (c_X2_mark X hX _ (show s < 19 by omega) _ _ (by omega) (computeV_b hb hk) _ kt) (by decide +kernel : decode cX4_compute 61 = .ok (.invokevirtual 66, 3)) (by decide) rfl rfl rfl rfl (show s < 19 by omega) (Nat.le_of_ble_eq_true rfl) (fun v61 m61 h61 => ?_)
        obtain ⟨rfl, e61⟩ := h61
        have cw : CW m s (fmark (m s) k (computeV (tat (m s) k) k h)) m61 := by rw [e61, ks, e42]; exact CW_tset hC hs hn h0 (fmark_ok hr (computeV_b hb hk))
        have r61 : tat (m61 s) k = computeV (tat (m s) k) k h := by rw [e61, tset_at, fmark_at hk]
        refine g_aload hF (by decide +kernel : decode cX4_compute 64 = .ok (.aload 4, 2)) rfl ?_
        refine g_iload_n hF (by decide +kernel : decode cX4_compute 66 = .ok (.iload_n 2, 1)) rfl ?_
        refine g_callV hF lkX4_62 (c_X2_at X hX _ (show s < 19 by omega) _ (by omega) _) (by decide +kernel : decode cX4_compute 67 = .ok (.invokevirtual 62, 3)) (by decide) rfl rfl rfl rfl (show s < 19 by omega) (Nat.le_of_ble_eq_true rfl) (fun v67 m67 h67 => ?_)
        obtain ⟨rfl, e67⟩ := h67
        obtain rfl := e67.symm
        rw [r61]
        refine g_ireturn hF hQ (by decide +kernel : decode cX4_compute 70 = .ok (.ireturn, 1)) ?_
        exact ⟨rfl, cw⟩
      · skip
        refine g_iload_n hF (by decide +kernel : decode cX4_compute 26 = .ok (.iload_n 3, 1)) rfl ?_
        refine g_bipush hF (by decide +kernel : decode cX4_compute 27 = .ok (.bipush 112, 2)) (by decide) ?_
        refine g_icmp_ne hF (tgt := 36) (by decide +kernel : decode cX4_compute 29 = .ok (.if_icmp .ne 7, 3)) (by decide) (by omega) (by omega) (fun c29 => ?_) (fun c29 => ?_)
        · skip
          exact absurd hw (by omega)
        · skip
          refine g_iconst hF (by decide +kernel : decode cX4_compute 32 = .ok (.iconst 1, 1)) ?_
          refine g_goto hF (tgt := 37) (by decide +kernel : decode cX4_compute 33 = .ok (.goto 4, 3)) (by decide) ?_
          refine g_callS hF lkX4_74 (c_X4_checkWay X hX _ (by omega) (by omega) _) (by decide +kernel : decode cX4_compute 37 = .ok (.invokestatic 74, 3)) (by decide) rfl rfl (Nat.le_of_ble_eq_true rfl) (fun v37 m37 h37 => ?_)
          obtain ⟨rfl, e37⟩ := h37
          obtain rfl := e37.symm
          refine g_aload_n hF (by decide +kernel : decode cX4_compute 40 = .ok (.aload_n 0, 1)) rfl ?_
          refine g_iload_n hF (by decide +kernel : decode cX4_compute 41 = .ok (.iload_n 1, 1)) rfl ?_
          refine g_callV hF lkX4_58 (c_X4_openToWrite X hX _ (by assumption) _ (by assumption) _ (by assumption) (by assumption)) (by decide +kernel : decode cX4_compute 42 = .ok (.invokevirtual 58, 3)) (by decide) rfl rfl rfl rfl jok38 (Nat.le_of_ble_eq_true rfl) (fun v42 m42 h42 => ?_)
          obtain ⟨rfl, e42⟩ := h42
          have ks : m42 s = m s := by rw [e42]; exact keepM_row (by omega) (by omega) (by omega) (by omega)
          have kt : tok m42 s := by rw [e42]; exact (keepM_CI hC hs hs hn).1 s (by omega)
          have kr := kt.1
          have cw0 : CW m s (m s) m42 := by rw [e42]; exact CW_keep hC hs hn h0
          refine g_astore hF (by decide +kernel : decode cX4_compute 45 = .ok (.astore 4, 2)) (by decide) ?_
          refine g_aload hF (by decide +kernel : decode cX4_compute 47 = .ok (.aload 4, 2)) rfl ?_
          refine g_iload_n hF (by decide +kernel : decode cX4_compute 49 = .ok (.iload_n 2, 1)) rfl ?_
          refine g_aload hF (by decide +kernel : decode cX4_compute 50 = .ok (.aload 4, 2)) rfl ?_
          refine g_iload_n hF (by decide +kernel : decode cX4_compute 52 = .ok (.iload_n 2, 1)) rfl ?_
          refine g_callV hF lkX4_62 (c_X2_at X hX _ (show s < 19 by omega) _ (by omega) _) (by decide +kernel : decode cX4_compute 53 = .ok (.invokevirtual 62, 3)) (by decide) rfl rfl rfl rfl (show s < 19 by omega) (Nat.le_of_ble_eq_true rfl) (fun v53 m53 h53 => ?_)
          obtain ⟨rfl, e53⟩ := h53
          obtain rfl := e53.symm
          rw [ks]
          have hb := tat_b hr k
          refine g_iload_n hF (by decide +kernel : decode cX4_compute 56 = .ok (.iload_n 2, 1)) rfl ?_
          refine g_iload_n hF (by decide +kernel : decode cX4_compute 57 = .ok (.iload_n 3, 1)) rfl ?_
          refine g_callS hF lkX4_82 (c_X4_computed X hX _ _ _ (by omega) (by assumption) (by omega) _) (by decide +kernel : decode cX4_compute 58 = .ok (.invokestatic 82, 3)) (by decide) rfl rfl (Nat.le_of_ble_eq_true rfl) (fun v58 m58 h58 => ?_)
          obtain ⟨rfl, e58⟩ := h58
          obtain rfl := e58.symm
          refine g_callV hF lkX4_66 (c_X2_mark X hX _ (show s < 19 by omega) _ _ (by omega) (computeV_b hb hk) _ kt) (by decide +kernel : decode cX4_compute 61 = .ok (.invokevirtual 66, 3)) (by decide) rfl rfl rfl rfl (show s < 19 by omega) (Nat.le_of_ble_eq_true rfl) (fun v61 m61 h61 => ?_)
          obtain ⟨rfl, e61⟩ := h61
          have cw : CW m s (fmark (m s) k (computeV (tat (m s) k) k h)) m61 := by rw [e61, ks, e42]; exact CW_tset hC hs hn h0 (fmark_ok hr (computeV_b hb hk))
          have r61 : tat (m61 s) k = computeV (tat (m s) k) k h := by rw [e61, tset_at, fmark_at hk]
          refine g_aload hF (by decide +kernel : decode cX4_compute 64 = .ok (.aload 4, 2)) rfl ?_
          refine g_iload_n hF (by decide +kernel : decode cX4_compute 66 = .ok (.iload_n 2, 1)) rfl ?_
          refine g_callV hF lkX4_62 (c_X2_at X hX _ (show s < 19 by omega) _ (by omega) _) (by decide +kernel : decode cX4_compute 67 = .ok (.invokevirtual 62, 3)) (by decide) rfl rfl rfl rfl (show s < 19 by omega) (Nat.le_of_ble_eq_true rfl) (fun v67 m67 h67 => ?_)
          obtain ⟨rfl, e67⟩ := h67
          obtain rfl := e67.symm
          rw [r61]
          refine g_ireturn hF hQ (by decide +kernel : decode cX4_compute 70 = .ok (.ireturn, 1)) ?_
          exact ⟨rfl, cw⟩
set_option maxHeartbeats 4000000 in
set_option maxRecDepth 100000 in
theorem c_X4_clear (X : jX) (hX : jxok X) (s : Nat) (hs : s < 8) (m : jM) (hC : CI m) : Con X yX4_clear cX4_clear 4 (some .int) 12 [vR 2 38, vI s] m (fun o m' => o = some (vI (cnt (m s))) ∧ CW m s (fun _ => -2) m') := by
  refine Con.of hX (by decide) (Nat.le_of_ble_eq_true rfl) (fun F hF hQ => ?_)
  have hr := (hC.1 s (by omega)).1
  obtain ⟨nx, hn, h0⟩ := hC.2.2.1
  refine g_iload_n hF (by decide +kernel : decode cX4_clear 0 = .ok (.iload_n 1, 1)) rfl ?_
  refine g_callS hF lkX4_51 (c_X4_checkSlot X hX _ (by omega) (by omega) _) (by decide +kernel : decode cX4_clear 1 = .ok (.invokestatic 51, 3)) (by decide) rfl rfl (Nat.le_of_ble_eq_true rfl) (fun v1 m1 h1 => ?_)
  obtain ⟨rfl, e1⟩ := h1
  obtain rfl := e1.symm
  refine g_aload_n hF (by decide +kernel : decode cX4_clear 4 = .ok (.aload_n 0, 1)) rfl ?_
  refine g_iload_n hF (by decide +kernel : decode cX4_clear 5 = .ok (.iload_n 1, 1)) rfl ?_
  refine g_callV hF lkX4_58 (c_X4_openToWrite X hX _ (by assumption) _ (by assumption) _ (by assumption) (by assumption)) (by decide +kernel : decode cX4_clear 6 = .ok (.invokevirtual 58, 3)) (by decide) rfl rfl rfl rfl jok38 (Nat.le_of_ble_eq_true rfl) (fun v6 m6 h6 => ?_)
  obtain ⟨rfl, e6⟩ := h6
  have ks : m6 s = m s := by rw [e6]; exact keepM_row (by omega) (by omega) (by omega) (by omega)
  have kt : tok m6 s := by rw [e6]; exact (keepM_CI hC hs hs hn).1 s (by omega)
  have kr := kt.1
  have cw0 : CW m s (m s) m6 := by rw [e6]; exact CW_keep hC hs hn h0
  refine g_astore_n hF (by decide +kernel : decode cX4_clear 9 = .ok (.astore_n 2, 1)) (by decide) ?_
  refine g_aload_n hF (by decide +kernel : decode cX4_clear 10 = .ok (.aload_n 2, 1)) rfl ?_
  refine g_tcnt hF lkX4_85 (by decide +kernel : decode cX4_clear 11 = .ok (.getfield 85, 3)) (show s < 19 by omega) ?_
  refine g_istore_n hF (by decide +kernel : decode cX4_clear 14 = .ok (.istore_n 3, 1)) (by decide) ?_
  refine g_aload_n hF (by decide +kernel : decode cX4_clear 15 = .ok (.aload_n 2, 1)) rfl ?_
  refine g_callV hF lkX4_89 (c_X2_wipe X hX _ (show s < 19 by omega) _) (by decide +kernel : decode cX4_clear 16 = .ok (.invokevirtual 89, 3)) (by decide) rfl rfl rfl rfl (show s < 19 by omega) (Nat.le_of_ble_eq_true rfl) (fun v16 m16 h16 => ?_)
  obtain ⟨rfl, e16⟩ := h16
  have cw : CW m s (fun _ => -2) m16 := by rw [e16, e6]; exact CW_tset hC hs hn h0 rowok_none
  refine g_iload_n hF (by decide +kernel : decode cX4_clear 19 = .ok (.iload_n 3, 1)) rfl ?_
  refine g_ireturn hF hQ (by decide +kernel : decode cX4_clear 20 = .ok (.ireturn, 1)) ?_
  exact ⟨by rw [kt.2, ks], cw⟩
set_option maxHeartbeats 4000000 in
set_option maxRecDepth 100000 in
theorem c_X4_get (X : jX) (hX : jxok X) (s : Nat) (hs : s < 8) (k : Int) (hk : num k) (m : jM) (hC : CI m) : Con X yX4_get cX4_get 3 (some .int) 12 [vR 2 38, vI s, vI k] m (fun o m' => o = some (vI (tat (m s) k)) ∧ CQ m m') := by
  refine Con.of hX (by decide) (Nat.le_of_ble_eq_true rfl) (fun F hF hQ => ?_)
  have hr := (hC.1 s (by omega)).1
  have hct := (hC.1 s (by omega)).2
  unfold num at hk
  refine g_iload_n hF (by decide +kernel : decode cX4_get 0 = .ok (.iload_n 1, 1)) rfl ?_
  refine g_callS hF lkX4_51 (c_X4_checkSlot X hX _ (by omega) (by omega) _) (by decide +kernel : decode cX4_get 1 = .ok (.invokestatic 51, 3)) (by decide) rfl rfl (Nat.le_of_ble_eq_true rfl) (fun v1 m1 h1 => ?_)
  obtain ⟨rfl, e1⟩ := h1
  obtain rfl := e1.symm
  refine g_iload_n hF (by decide +kernel : decode cX4_get 4 = .ok (.iload_n 2, 1)) rfl ?_
  refine g_callS hF lkX4_55 (c_X4_checkNumber X hX _ (by omega) (by unfold num; omega) _) (by decide +kernel : decode cX4_get 5 = .ok (.invokestatic 55, 3)) (by decide) rfl rfl (Nat.le_of_ble_eq_true rfl) (fun v5 m5 h5 => ?_)
  obtain ⟨rfl, e5⟩ := h5
  obtain rfl := e5.symm
  refine g_aload_n hF (by decide +kernel : decode cX4_get 8 = .ok (.aload_n 0, 1)) rfl ?_
  refine g_getC hF lkX4_11 (by decide +kernel : decode cX4_get 9 = .ok (.getfield 11, 3)) jok38 rfl rfl ?_
  refine g_iload_n hF (by decide +kernel : decode cX4_get 12 = .ok (.iload_n 1, 1)) rfl ?_
  refine g_aaload_39 hF (by decide +kernel : decode cX4_get 13 = .ok (.aaload, 1)) (rfl) hs ?_
  refine g_iload_n hF (by decide +kernel : decode cX4_get 14 = .ok (.iload_n 2, 1)) rfl ?_
  refine g_callV hF lkX4_62 (c_X2_at X hX _ (show s < 19 by omega) _ (by omega) _) (by decide +kernel : decode cX4_get 15 = .ok (.invokevirtual 62, 3)) (by decide) rfl rfl rfl rfl (show s < 19 by omega) (Nat.le_of_ble_eq_true rfl) (fun v15 m15 h15 => ?_)
  obtain ⟨rfl, e15⟩ := h15
  obtain rfl := e15.symm
  refine g_ireturn hF hQ (by decide +kernel : decode cX4_get 18 = .ok (.ireturn, 1)) ?_
  exact ⟨rfl, CQ_rfl hC⟩
set_option maxHeartbeats 4000000 in
set_option maxRecDepth 100000 in
theorem c_X4_getOr (X : jX) (hX : jxok X) (s : Nat) (hs : s < 8) (k v : Int) (hk : num k) (hv : num v) (m : jM) (hC : CI m) : Con X yX4_getOr cX4_getOr 4 (some .int) 12 [vR 2 38, vI s, vI k, vI v] m (fun o m' => o = some (vI (if tat (m s) k = -2 then v else tat (m s) k)) ∧ CQ m m') := by
  refine Con.of hX (by decide) (Nat.le_of_ble_eq_true rfl) (fun F hF hQ => ?_)
  have hr := (hC.1 s (by omega)).1
  have hct := (hC.1 s (by omega)).2
  unfold num at hk hv
  refine g_iload_n hF (by decide +kernel : decode cX4_getOr 0 = .ok (.iload_n 1, 1)) rfl ?_
  refine g_callS hF lkX4_51 (c_X4_checkSlot X hX _ (by omega) (by omega) _) (by decide +kernel : decode cX4_getOr 1 = .ok (.invokestatic 51, 3)) (by decide) rfl rfl (Nat.le_of_ble_eq_true rfl) (fun v1 m1 h1 => ?_)
  obtain ⟨rfl, e1⟩ := h1
  obtain rfl := e1.symm
  refine g_iload_n hF (by decide +kernel : decode cX4_getOr 4 = .ok (.iload_n 2, 1)) rfl ?_
  refine g_callS hF lkX4_55 (c_X4_checkNumber X hX _ (by omega) (by unfold num; omega) _) (by decide +kernel : decode cX4_getOr 5 = .ok (.invokestatic 55, 3)) (by decide) rfl rfl (Nat.le_of_ble_eq_true rfl) (fun v5 m5 h5 => ?_)
  obtain ⟨rfl, e5⟩ := h5
  obtain rfl := e5.symm
  refine g_iload_n hF (by decide +kernel : decode cX4_getOr 8 = .ok (.iload_n 3, 1)) rfl ?_
  refine g_callS hF lkX4_55 (c_X4_checkNumber X hX _ (by omega) (by unfold num; omega) _) (by decide +kernel : decode cX4_getOr 9 = .ok (.invokestatic 55, 3)) (by decide) rfl rfl (Nat.le_of_ble_eq_true rfl) (fun v9 m9 h9 => ?_)
  obtain ⟨rfl, e9⟩ := h9
  obtain rfl := e9.symm
  refine g_aload_n hF (by decide +kernel : decode cX4_getOr 12 = .ok (.aload_n 0, 1)) rfl ?_
  refine g_getC hF lkX4_11 (by decide +kernel : decode cX4_getOr 13 = .ok (.getfield 11, 3)) jok38 rfl rfl ?_
  refine g_iload_n hF (by decide +kernel : decode cX4_getOr 16 = .ok (.iload_n 1, 1)) rfl ?_
  refine g_aaload_39 hF (by decide +kernel : decode cX4_getOr 17 = .ok (.aaload, 1)) (rfl) hs ?_
  refine g_iload_n hF (by decide +kernel : decode cX4_getOr 18 = .ok (.iload_n 2, 1)) rfl ?_
  refine g_callV hF lkX4_92 (c_X2_isKey X hX _ (show s < 19 by omega) _ (by omega) _ (by assumption)) (by decide +kernel : decode cX4_getOr 19 = .ok (.invokevirtual 92, 3)) (by decide) rfl rfl rfl rfl (show s < 19 by omega) (Nat.le_of_ble_eq_true rfl) (fun v19 m19 h19 => ?_)
  obtain ⟨rfl, e19⟩ := h19
  obtain rfl := e19.symm
  refine g_if_eq hF (tgt := 38) (by decide +kernel : decode cX4_getOr 22 = .ok (.ifCond .eq 16, 3)) (by decide) (by split <;> omega) (fun c22 => ?_) (fun c22 => ?_)
  · skip
    refine g_iload_n hF (by decide +kernel : decode cX4_getOr 38 = .ok (.iload_n 3, 1)) rfl ?_
    refine g_ireturn hF hQ (by decide +kernel : decode cX4_getOr 39 = .ok (.ireturn, 1)) ?_
    exact ⟨by rw [if_pos (Classical.byContradiction (fun q => by rw [if_neg q] at c22; omega))], CQ_rfl hC⟩
  · skip
    refine g_aload_n hF (by decide +kernel : decode cX4_getOr 25 = .ok (.aload_n 0, 1)) rfl ?_
    refine g_getC hF lkX4_11 (by decide +kernel : decode cX4_getOr 26 = .ok (.getfield 11, 3)) jok38 rfl rfl ?_
    refine g_iload_n hF (by decide +kernel : decode cX4_getOr 29 = .ok (.iload_n 1, 1)) rfl ?_
    refine g_aaload_39 hF (by decide +kernel : decode cX4_getOr 30 = .ok (.aaload, 1)) (rfl) hs ?_
    refine g_iload_n hF (by decide +kernel : decode cX4_getOr 31 = .ok (.iload_n 2, 1)) rfl ?_
    refine g_callV hF lkX4_62 (c_X2_at X hX _ (show s < 19 by omega) _ (by omega) _) (by decide +kernel : decode cX4_getOr 32 = .ok (.invokevirtual 62, 3)) (by decide) rfl rfl rfl rfl (show s < 19 by omega) (Nat.le_of_ble_eq_true rfl) (fun v32 m32 h32 => ?_)
    obtain ⟨rfl, e32⟩ := h32
    obtain rfl := e32.symm
    refine g_goto hF (tgt := 39) (by decide +kernel : decode cX4_getOr 35 = .ok (.goto 4, 3)) (by decide) ?_
    refine g_ireturn hF hQ (by decide +kernel : decode cX4_getOr 39 = .ok (.ireturn, 1)) ?_
    exact ⟨by rw [if_neg (fun q => c22 (if_pos q))], CQ_rfl hC⟩
set_option maxHeartbeats 4000000 in
set_option maxRecDepth 100000 in
theorem c_X4_has (X : jX) (hX : jxok X) (s : Nat) (hs : s < 8) (k : Int) (hk : num k) (m : jM) (hC : CI m) : Con X yX4_has cX4_has 3 (some .boolean) 12 [vR 2 38, vI s, vI k] m (fun o m' => o = some (vI (if tat (m s) k = -2 then 0 else 1)) ∧ CQ m m') := by
  refine Con.of hX (by decide) (Nat.le_of_ble_eq_true rfl) (fun F hF hQ => ?_)
  have hr := (hC.1 s (by omega)).1
  have hct := (hC.1 s (by omega)).2
  unfold num at hk
  refine g_iload_n hF (by decide +kernel : decode cX4_has 0 = .ok (.iload_n 1, 1)) rfl ?_
  refine g_callS hF lkX4_51 (c_X4_checkSlot X hX _ (by omega) (by omega) _) (by decide +kernel : decode cX4_has 1 = .ok (.invokestatic 51, 3)) (by decide) rfl rfl (Nat.le_of_ble_eq_true rfl) (fun v1 m1 h1 => ?_)
  obtain ⟨rfl, e1⟩ := h1
  obtain rfl := e1.symm
  refine g_iload_n hF (by decide +kernel : decode cX4_has 4 = .ok (.iload_n 2, 1)) rfl ?_
  refine g_callS hF lkX4_55 (c_X4_checkNumber X hX _ (by omega) (by unfold num; omega) _) (by decide +kernel : decode cX4_has 5 = .ok (.invokestatic 55, 3)) (by decide) rfl rfl (Nat.le_of_ble_eq_true rfl) (fun v5 m5 h5 => ?_)
  obtain ⟨rfl, e5⟩ := h5
  obtain rfl := e5.symm
  refine g_aload_n hF (by decide +kernel : decode cX4_has 8 = .ok (.aload_n 0, 1)) rfl ?_
  refine g_getC hF lkX4_11 (by decide +kernel : decode cX4_has 9 = .ok (.getfield 11, 3)) jok38 rfl rfl ?_
  refine g_iload_n hF (by decide +kernel : decode cX4_has 12 = .ok (.iload_n 1, 1)) rfl ?_
  refine g_aaload_39 hF (by decide +kernel : decode cX4_has 13 = .ok (.aaload, 1)) (rfl) hs ?_
  refine g_iload_n hF (by decide +kernel : decode cX4_has 14 = .ok (.iload_n 2, 1)) rfl ?_
  refine g_callV hF lkX4_92 (c_X2_isKey X hX _ (show s < 19 by omega) _ (by omega) _ (by assumption)) (by decide +kernel : decode cX4_has 15 = .ok (.invokevirtual 92, 3)) (by decide) rfl rfl rfl rfl (show s < 19 by omega) (Nat.le_of_ble_eq_true rfl) (fun v15 m15 h15 => ?_)
  obtain ⟨rfl, e15⟩ := h15
  obtain rfl := e15.symm
  refine g_zreturn hF hQ (by decide +kernel : decode cX4_has 18 = .ok (.ireturn, 1)) (by by_cases q : tat (m s) k = -2; { rw [if_pos q]; exact Or.inl rfl }; { rw [if_neg q]; exact Or.inr rfl }) ?_
  exact ⟨rfl, CQ_rfl hC⟩
set_option maxHeartbeats 4000000 in
set_option maxRecDepth 100000 in
theorem c_X4_hasValue (X : jX) (hX : jxok X) (s : Nat) (hs : s < 8) (v : Int) (hv : num v) (m : jM) (hC : CI m) : Con X yX4_hasValue cX4_hasValue 3 (some .boolean) 12 [vR 2 38, vI s, vI v] m (fun o m' => o = some (vI (if 0 < mult (m s) v then 1 else 0)) ∧ CQ m m') := by
  refine Con.of hX (by decide) (Nat.le_of_ble_eq_true rfl) (fun F hF hQ => ?_)
  have hr := (hC.1 s (by omega)).1
  have hct := (hC.1 s (by omega)).2
  unfold num at hv
  have hmb : 0 ≤ sumN (fun z => if m s z = v then 1 else 0) 257 ∧ sumN (fun z => if m s z = v then 1 else 0) 257 ≤ 257 := mult_b (m s) v 257
  refine g_iload_n hF (by decide +kernel : decode cX4_hasValue 0 = .ok (.iload_n 1, 1)) rfl ?_
  refine g_callS hF lkX4_51 (c_X4_checkSlot X hX _ (by omega) (by omega) _) (by decide +kernel : decode cX4_hasValue 1 = .ok (.invokestatic 51, 3)) (by decide) rfl rfl (Nat.le_of_ble_eq_true rfl) (fun v1 m1 h1 => ?_)
  obtain ⟨rfl, e1⟩ := h1
  obtain rfl := e1.symm
  refine g_iload_n hF (by decide +kernel : decode cX4_hasValue 4 = .ok (.iload_n 2, 1)) rfl ?_
  refine g_callS hF lkX4_55 (c_X4_checkNumber X hX _ (by omega) (by unfold num; omega) _) (by decide +kernel : decode cX4_hasValue 5 = .ok (.invokestatic 55, 3)) (by decide) rfl rfl (Nat.le_of_ble_eq_true rfl) (fun v5 m5 h5 => ?_)
  obtain ⟨rfl, e5⟩ := h5
  obtain rfl := e5.symm
  refine g_aload_n hF (by decide +kernel : decode cX4_hasValue 8 = .ok (.aload_n 0, 1)) rfl ?_
  refine g_getC hF lkX4_11 (by decide +kernel : decode cX4_hasValue 9 = .ok (.getfield 11, 3)) jok38 rfl rfl ?_
  refine g_iload_n hF (by decide +kernel : decode cX4_hasValue 12 = .ok (.iload_n 1, 1)) rfl ?_
  refine g_aaload_39 hF (by decide +kernel : decode cX4_hasValue 13 = .ok (.aaload, 1)) (rfl) hs ?_
  refine g_iload_n hF (by decide +kernel : decode cX4_hasValue 14 = .ok (.iload_n 2, 1)) rfl ?_
  refine g_callV hF lkX4_96 (c_X2_timesOf X hX _ (show s < 19 by omega) _ (by omega) _ (by assumption)) (by decide +kernel : decode cX4_hasValue 15 = .ok (.invokevirtual 96, 3)) (by decide) rfl rfl rfl rfl (show s < 19 by omega) (Nat.le_of_ble_eq_true rfl) (fun v15 m15 h15 => ?_)
  obtain ⟨rfl, e15⟩ := h15
  obtain rfl := e15.symm
  refine g_if_le hF (tgt := 25) (by decide +kernel : decode cX4_hasValue 18 = .ok (.ifCond .le 7, 3)) (by decide) (by omega) (fun c18 => ?_) (fun c18 => ?_)
  · skip
    refine g_iconst hF (by decide +kernel : decode cX4_hasValue 25 = .ok (.iconst 0, 1)) ?_
    refine g_zreturn hF hQ (by decide +kernel : decode cX4_hasValue 26 = .ok (.ireturn, 1)) (by first | exact Or.inl rfl | exact Or.inr rfl | omega) ?_
    exact ⟨by show _ = some (vI (if 0 < sumN (fun z => if m s z = v then 1 else 0) 257 then 1 else 0)); rw [if_neg (show ¬ 0 < sumN (fun z => if m s z = v then 1 else 0) 257 by omega)], CQ_rfl hC⟩
  · skip
    refine g_iconst hF (by decide +kernel : decode cX4_hasValue 21 = .ok (.iconst 1, 1)) ?_
    refine g_goto hF (tgt := 26) (by decide +kernel : decode cX4_hasValue 22 = .ok (.goto 4, 3)) (by decide) ?_
    refine g_zreturn hF hQ (by decide +kernel : decode cX4_hasValue 26 = .ok (.ireturn, 1)) (by first | exact Or.inl rfl | exact Or.inr rfl | omega) ?_
    exact ⟨by show _ = some (vI (if 0 < sumN (fun z => if m s z = v then 1 else 0) 257 then 1 else 0)); rw [if_pos (show 0 < sumN (fun z => if m s z = v then 1 else 0) 257 by omega)], CQ_rfl hC⟩
set_option maxHeartbeats 4000000 in
set_option maxRecDepth 100000 in
theorem c_X4_size (X : jX) (hX : jxok X) (s : Nat) (hs : s < 8) (m : jM) (hC : CI m) : Con X yX4_size cX4_size 2 (some .int) 12 [vR 2 38, vI s] m (fun o m' => o = some (vI (cnt (m s))) ∧ CQ m m') := by
  refine Con.of hX (by decide) (Nat.le_of_ble_eq_true rfl) (fun F hF hQ => ?_)
  have hr := (hC.1 s (by omega)).1
  have hct := (hC.1 s (by omega)).2
  refine g_iload_n hF (by decide +kernel : decode cX4_size 0 = .ok (.iload_n 1, 1)) rfl ?_
  refine g_callS hF lkX4_51 (c_X4_checkSlot X hX _ (by omega) (by omega) _) (by decide +kernel : decode cX4_size 1 = .ok (.invokestatic 51, 3)) (by decide) rfl rfl (Nat.le_of_ble_eq_true rfl) (fun v1 m1 h1 => ?_)
  obtain ⟨rfl, e1⟩ := h1
  obtain rfl := e1.symm
  refine g_aload_n hF (by decide +kernel : decode cX4_size 4 = .ok (.aload_n 0, 1)) rfl ?_
  refine g_getC hF lkX4_11 (by decide +kernel : decode cX4_size 5 = .ok (.getfield 11, 3)) jok38 rfl rfl ?_
  refine g_iload_n hF (by decide +kernel : decode cX4_size 8 = .ok (.iload_n 1, 1)) rfl ?_
  refine g_aaload_39 hF (by decide +kernel : decode cX4_size 9 = .ok (.aaload, 1)) (rfl) hs ?_
  refine g_tcnt hF lkX4_85 (by decide +kernel : decode cX4_size 10 = .ok (.getfield 85, 3)) (show s < 19 by omega) ?_
  refine g_ireturn hF hQ (by decide +kernel : decode cX4_size 13 = .ok (.ireturn, 1)) ?_
  exact ⟨by rw [hct], CQ_rfl hC⟩
set_option maxHeartbeats 4000000 in
set_option maxRecDepth 100000 in
theorem c_X4_kinds (X : jX) (hX : jxok X) (s : Nat) (hs : s < 8) (m : jM) (hC : CI m) : Con X yX4_kinds cX4_kinds 2 (some .int) 12 [vR 2 38, vI s] m (fun o m' => o = some (vI (kindsV (m s))) ∧ CQ m m') := by
  refine Con.of hX (by decide) (Nat.le_of_ble_eq_true rfl) (fun F hF hQ => ?_)
  have hr := (hC.1 s (by omega)).1
  have hct := (hC.1 s (by omega)).2
  refine g_iload_n hF (by decide +kernel : decode cX4_kinds 0 = .ok (.iload_n 1, 1)) rfl ?_
  refine g_callS hF lkX4_51 (c_X4_checkSlot X hX _ (by omega) (by omega) _) (by decide +kernel : decode cX4_kinds 1 = .ok (.invokestatic 51, 3)) (by decide) rfl rfl (Nat.le_of_ble_eq_true rfl) (fun v1 m1 h1 => ?_)
  obtain ⟨rfl, e1⟩ := h1
  obtain rfl := e1.symm
  refine g_aload_n hF (by decide +kernel : decode cX4_kinds 4 = .ok (.aload_n 0, 1)) rfl ?_
  refine g_aload_n hF (by decide +kernel : decode cX4_kinds 5 = .ok (.aload_n 0, 1)) rfl ?_
  refine g_getC hF lkX4_11 (by decide +kernel : decode cX4_kinds 6 = .ok (.getfield 11, 3)) jok38 rfl rfl ?_
  refine g_iload_n hF (by decide +kernel : decode cX4_kinds 9 = .ok (.iload_n 1, 1)) rfl ?_
  refine g_aaload_39 hF (by decide +kernel : decode cX4_kinds 10 = .ok (.aaload, 1)) (rfl) hs ?_
  refine g_callV hF lkX4_99 (c_X4_unlikeValues X hX _ (show s < 19 by omega) _ (by assumption)) (by decide +kernel : decode cX4_kinds 11 = .ok (.invokevirtual 99, 3)) (by decide) rfl rfl rfl rfl jok38 (Nat.le_of_ble_eq_true rfl) (fun v11 m11 h11 => ?_)
  obtain ⟨rfl, G11, e11⟩ := h11
  obtain rfl := e11.symm
  refine g_ireturn hF hQ (by decide +kernel : decode cX4_kinds 14 = .ok (.ireturn, 1)) ?_
  exact ⟨rfl, CQ_row hC (by unfold garb; omega) (by omega) _⟩
set_option maxHeartbeats 4000000 in
set_option maxRecDepth 100000 in
theorem c_X4_keyAt (X : jX) (hX : jxok X) (s : Nat) (hs : s < 8) (p : Int) (m : jM) (hC : CI m) (hp : 0 ≤ p ∧ p < cnt (m s)) : Con X yX4_keyAt cX4_keyAt 3 (some .int) 12 [vR 2 38, vI s, vI p] m (fun o m' => o = some (vI (nthK (m s) p)) ∧ CQ m m') := by
  refine Con.of hX (by decide) (Nat.le_of_ble_eq_true rfl) (fun F hF hQ => ?_)
  have hr := (hC.1 s (by omega)).1
  have hct := (hC.1 s (by omega)).2
  have hcb := cnt_b (m s)
  refine g_iload_n hF (by decide +kernel : decode cX4_keyAt 0 = .ok (.iload_n 1, 1)) rfl ?_
  refine g_callS hF lkX4_51 (c_X4_checkSlot X hX _ (by omega) (by omega) _) (by decide +kernel : decode cX4_keyAt 1 = .ok (.invokestatic 51, 3)) (by decide) rfl rfl (Nat.le_of_ble_eq_true rfl) (fun v1 m1 h1 => ?_)
  obtain ⟨rfl, e1⟩ := h1
  obtain rfl := e1.symm
  refine g_iload_n hF (by decide +kernel : decode cX4_keyAt 4 = .ok (.iload_n 2, 1)) rfl ?_
  refine g_if_lt hF (tgt := 21) (by decide +kernel : decode cX4_keyAt 5 = .ok (.ifCond .lt 16, 3)) (by decide) (by omega) (fun c5 => ?_) (fun c5 => ?_)
  · skip
    exact absurd c5 (by omega)
  · skip
    refine g_iload_n hF (by decide +kernel : decode cX4_keyAt 8 = .ok (.iload_n 2, 1)) rfl ?_
    refine g_aload_n hF (by decide +kernel : decode cX4_keyAt 9 = .ok (.aload_n 0, 1)) rfl ?_
    refine g_getC hF lkX4_11 (by decide +kernel : decode cX4_keyAt 10 = .ok (.getfield 11, 3)) jok38 rfl rfl ?_
    refine g_iload_n hF (by decide +kernel : decode cX4_keyAt 13 = .ok (.iload_n 1, 1)) rfl ?_
    refine g_aaload_39 hF (by decide +kernel : decode cX4_keyAt 14 = .ok (.aaload, 1)) (rfl) hs ?_
    refine g_tcnt hF lkX4_85 (by decide +kernel : decode cX4_keyAt 15 = .ok (.getfield 85, 3)) (show s < 19 by omega) ?_
    refine g_icmp_lt hF (tgt := 31) (by decide +kernel : decode cX4_keyAt 18 = .ok (.if_icmp .lt 13, 3)) (by decide) (by omega) (by omega) (fun c18 => ?_) (fun c18 => ?_)
    · skip
      refine g_aload_n hF (by decide +kernel : decode cX4_keyAt 31 = .ok (.aload_n 0, 1)) rfl ?_
      refine g_getC hF lkX4_11 (by decide +kernel : decode cX4_keyAt 32 = .ok (.getfield 11, 3)) jok38 rfl rfl ?_
      refine g_iload_n hF (by decide +kernel : decode cX4_keyAt 35 = .ok (.iload_n 1, 1)) rfl ?_
      refine g_aaload_39 hF (by decide +kernel : decode cX4_keyAt 36 = .ok (.aaload, 1)) (rfl) hs ?_
      refine g_iload_n hF (by decide +kernel : decode cX4_keyAt 37 = .ok (.iload_n 2, 1)) rfl ?_
      refine g_callV hF lkX4_110 (c_X2_keyOfPlace X hX _ (show s < 19 by omega) _ _ (by assumption) (by assumption)) (by decide +kernel : decode cX4_keyAt 38 = .ok (.invokevirtual 110, 3)) (by decide) rfl rfl rfl rfl (show s < 19 by omega) (Nat.le_of_ble_eq_true rfl) (fun v38 m38 h38 => ?_)
      obtain ⟨rfl, e38⟩ := h38
      obtain rfl := e38.symm
      refine g_ireturn hF hQ (by decide +kernel : decode cX4_keyAt 41 = .ok (.ireturn, 1)) ?_
      exact ⟨rfl, CQ_rfl hC⟩
    · skip
      exact absurd c18 (by omega)
set_option maxHeartbeats 4000000 in
set_option maxRecDepth 100000 in
theorem c_X4_isSame (X : jX) (hX : jxok X) (s : Nat) (hs : s < 8) (u : Nat) (hu : u < 8) (m : jM) (hC : CI m) : Con X yX4_isSame cX4_isSame 3 (some .boolean) 12 [vR 2 38, vI s, vI u] m (fun o m' => o = some (vI (bI (eqR (m s) (m u)))) ∧ CQ m m') := by
  refine Con.of hX (by decide) (Nat.le_of_ble_eq_true rfl) (fun F hF hQ => ?_)
  have hr := (hC.1 s (by omega)).1
  have hr2 := (hC.1 u (by omega)).1
  refine g_iload_n hF (by decide +kernel : decode cX4_isSame 0 = .ok (.iload_n 1, 1)) rfl ?_
  refine g_callS hF lkX4_51 (c_X4_checkSlot X hX _ (by omega) (by omega) _) (by decide +kernel : decode cX4_isSame 1 = .ok (.invokestatic 51, 3)) (by decide) rfl rfl (Nat.le_of_ble_eq_true rfl) (fun v1 m1 h1 => ?_)
  obtain ⟨rfl, e1⟩ := h1
  obtain rfl := e1.symm
  refine g_iload_n hF (by decide +kernel : decode cX4_isSame 4 = .ok (.iload_n 2, 1)) rfl ?_
  refine g_callS hF lkX4_51 (c_X4_checkSlot X hX _ (by omega) (by omega) _) (by decide +kernel : decode cX4_isSame 5 = .ok (.invokestatic 51, 3)) (by decide) rfl rfl (Nat.le_of_ble_eq_true rfl) (fun v5 m5 h5 => ?_)
  obtain ⟨rfl, e5⟩ := h5
  obtain rfl := e5.symm
  refine g_aload_n hF (by decide +kernel : decode cX4_isSame 8 = .ok (.aload_n 0, 1)) rfl ?_
  refine g_getC hF lkX4_11 (by decide +kernel : decode cX4_isSame 9 = .ok (.getfield 11, 3)) jok38 rfl rfl ?_
  refine g_iload_n hF (by decide +kernel : decode cX4_isSame 12 = .ok (.iload_n 1, 1)) rfl ?_
  refine g_aaload_39 hF (by decide +kernel : decode cX4_isSame 13 = .ok (.aaload, 1)) (rfl) hs ?_
  refine g_aload_n hF (by decide +kernel : decode cX4_isSame 14 = .ok (.aload_n 0, 1)) rfl ?_
  refine g_getC hF lkX4_11 (by decide +kernel : decode cX4_isSame 15 = .ok (.getfield 11, 3)) jok38 rfl rfl ?_
  refine g_iload_n hF (by decide +kernel : decode cX4_isSame 18 = .ok (.iload_n 2, 1)) rfl ?_
  refine g_aaload_39 hF (by decide +kernel : decode cX4_isSame 19 = .ok (.aaload, 1)) (rfl) hu ?_
  refine g_callV hF lkX4_113 (c_X2_matches X hX _ (show s < 19 by omega) _ (show u < 19 by omega) _ hr hr2) (by decide +kernel : decode cX4_isSame 20 = .ok (.invokevirtual 113, 3)) (by decide) rfl rfl rfl rfl (show s < 19 by omega) (Nat.le_of_ble_eq_true rfl) (fun v20 m20 h20 => ?_)
  obtain ⟨rfl, e20⟩ := h20
  obtain rfl := e20.symm
  refine g_zreturn hF hQ (by decide +kernel : decode cX4_isSame 23 = .ok (.ireturn, 1)) (bI_c _) ?_
  exact ⟨rfl, CQ_rfl hC⟩
set_option maxHeartbeats 4000000 in
set_option maxRecDepth 100000 in
theorem c_X4_areSameKeys (X : jX) (hX : jxok X) (s : Nat) (hs : s < 8) (u : Nat) (hu : u < 8) (m : jM) (hC : CI m) : Con X yX4_areSameKeys cX4_areSameKeys 3 (some .boolean) 12 [vR 2 38, vI s, vI u] m (fun o m' => o = some (vI (bI (eqK (m s) (m u)))) ∧ CQ m m') := by
  refine Con.of hX (by decide) (Nat.le_of_ble_eq_true rfl) (fun F hF hQ => ?_)
  have hr := (hC.1 s (by omega)).1
  have hr2 := (hC.1 u (by omega)).1
  refine g_iload_n hF (by decide +kernel : decode cX4_areSameKeys 0 = .ok (.iload_n 1, 1)) rfl ?_
  refine g_callS hF lkX4_51 (c_X4_checkSlot X hX _ (by omega) (by omega) _) (by decide +kernel : decode cX4_areSameKeys 1 = .ok (.invokestatic 51, 3)) (by decide) rfl rfl (Nat.le_of_ble_eq_true rfl) (fun v1 m1 h1 => ?_)
  obtain ⟨rfl, e1⟩ := h1
  obtain rfl := e1.symm
  refine g_iload_n hF (by decide +kernel : decode cX4_areSameKeys 4 = .ok (.iload_n 2, 1)) rfl ?_
  refine g_callS hF lkX4_51 (c_X4_checkSlot X hX _ (by omega) (by omega) _) (by decide +kernel : decode cX4_areSameKeys 5 = .ok (.invokestatic 51, 3)) (by decide) rfl rfl (Nat.le_of_ble_eq_true rfl) (fun v5 m5 h5 => ?_)
  obtain ⟨rfl, e5⟩ := h5
  obtain rfl := e5.symm
  refine g_aload_n hF (by decide +kernel : decode cX4_areSameKeys 8 = .ok (.aload_n 0, 1)) rfl ?_
  refine g_getC hF lkX4_11 (by decide +kernel : decode cX4_areSameKeys 9 = .ok (.getfield 11, 3)) jok38 rfl rfl ?_
  refine g_iload_n hF (by decide +kernel : decode cX4_areSameKeys 12 = .ok (.iload_n 1, 1)) rfl ?_
  refine g_aaload_39 hF (by decide +kernel : decode cX4_areSameKeys 13 = .ok (.aaload, 1)) (rfl) hs ?_
  refine g_aload_n hF (by decide +kernel : decode cX4_areSameKeys 14 = .ok (.aload_n 0, 1)) rfl ?_
  refine g_getC hF lkX4_11 (by decide +kernel : decode cX4_areSameKeys 15 = .ok (.getfield 11, 3)) jok38 rfl rfl ?_
  refine g_iload_n hF (by decide +kernel : decode cX4_areSameKeys 18 = .ok (.iload_n 2, 1)) rfl ?_
  refine g_aaload_39 hF (by decide +kernel : decode cX4_areSameKeys 19 = .ok (.aaload, 1)) (rfl) hu ?_
  refine g_callV hF lkX4_117 (c_X2_matchesKeys X hX _ (show s < 19 by omega) _ (show u < 19 by omega) _ hr hr2) (by decide +kernel : decode cX4_areSameKeys 20 = .ok (.invokevirtual 117, 3)) (by decide) rfl rfl rfl rfl (show s < 19 by omega) (Nat.le_of_ble_eq_true rfl) (fun v20 m20 h20 => ?_)
  obtain ⟨rfl, e20⟩ := h20
  obtain rfl := e20.symm
  refine g_zreturn hF hQ (by decide +kernel : decode cX4_areSameKeys 23 = .ok (.ireturn, 1)) (bI_c _) ?_
  exact ⟨rfl, CQ_rfl hC⟩
set_option maxHeartbeats 4000000 in
set_option maxRecDepth 100000 in
theorem c_X4_areSameValues (X : jX) (hX : jxok X) (s : Nat) (hs : s < 8) (u : Nat) (hu : u < 8) (m : jM) (hC : CI m) : Con X yX4_areSameValues cX4_areSameValues 3 (some .boolean) 12 [vR 2 38, vI s, vI u] m (fun o m' => o = some (vI (bI (eqV (m s) (m u)))) ∧ CQ m m') := by
  refine Con.of hX (by decide) (Nat.le_of_ble_eq_true rfl) (fun F hF hQ => ?_)
  have hr := (hC.1 s (by omega)).1
  have hr2 := (hC.1 u (by omega)).1
  refine g_iload_n hF (by decide +kernel : decode cX4_areSameValues 0 = .ok (.iload_n 1, 1)) rfl ?_
  refine g_callS hF lkX4_51 (c_X4_checkSlot X hX _ (by omega) (by omega) _) (by decide +kernel : decode cX4_areSameValues 1 = .ok (.invokestatic 51, 3)) (by decide) rfl rfl (Nat.le_of_ble_eq_true rfl) (fun v1 m1 h1 => ?_)
  obtain ⟨rfl, e1⟩ := h1
  obtain rfl := e1.symm
  refine g_iload_n hF (by decide +kernel : decode cX4_areSameValues 4 = .ok (.iload_n 2, 1)) rfl ?_
  refine g_callS hF lkX4_51 (c_X4_checkSlot X hX _ (by omega) (by omega) _) (by decide +kernel : decode cX4_areSameValues 5 = .ok (.invokestatic 51, 3)) (by decide) rfl rfl (Nat.le_of_ble_eq_true rfl) (fun v5 m5 h5 => ?_)
  obtain ⟨rfl, e5⟩ := h5
  obtain rfl := e5.symm
  refine g_aload_n hF (by decide +kernel : decode cX4_areSameValues 8 = .ok (.aload_n 0, 1)) rfl ?_
  refine g_aload_n hF (by decide +kernel : decode cX4_areSameValues 9 = .ok (.aload_n 0, 1)) rfl ?_
  refine g_getC hF lkX4_11 (by decide +kernel : decode cX4_areSameValues 10 = .ok (.getfield 11, 3)) jok38 rfl rfl ?_
  refine g_iload_n hF (by decide +kernel : decode cX4_areSameValues 13 = .ok (.iload_n 1, 1)) rfl ?_
  refine g_aaload_39 hF (by decide +kernel : decode cX4_areSameValues 14 = .ok (.aaload, 1)) (rfl) hs ?_
  refine g_aload_n hF (by decide +kernel : decode cX4_areSameValues 15 = .ok (.aload_n 0, 1)) rfl ?_
  refine g_getC hF lkX4_11 (by decide +kernel : decode cX4_areSameValues 16 = .ok (.getfield 11, 3)) jok38 rfl rfl ?_
  refine g_iload_n hF (by decide +kernel : decode cX4_areSameValues 19 = .ok (.iload_n 2, 1)) rfl ?_
  refine g_aaload_39 hF (by decide +kernel : decode cX4_areSameValues 20 = .ok (.aaload, 1)) (rfl) hu ?_
  refine g_callV hF lkX4_120 (c_X4_matchValues X hX _ (show s < 19 by omega) _ (show u < 19 by omega) _ hr hr2) (by decide +kernel : decode cX4_areSameValues 21 = .ok (.invokevirtual 120, 3)) (by decide) rfl rfl rfl rfl jok38 (Nat.le_of_ble_eq_true rfl) (fun v21 m21 h21 => ?_)
  obtain ⟨rfl, G21, e21⟩ := h21
  obtain rfl := e21.symm
  refine g_zreturn hF hQ (by decide +kernel : decode cX4_areSameValues 24 = .ok (.ireturn, 1)) (bI_c _) ?_
  exact ⟨rfl, CQ_row hC (by unfold garb; omega) (by omega) _⟩
set_option maxHeartbeats 4000000 in
set_option maxRecDepth 100000 in
theorem c_X4_hash (X : jX) (hX : jxok X) (s : Nat) (hs : s < 8) (m : jM) (hC : CI m) : Con X yX4_hash cX4_hash 2 (some .int) 12 [vR 2 38, vI s] m (fun o m' => o = some (vI (pairsN (m s))) ∧ CQ m m') := by
  refine Con.of hX (by decide) (Nat.le_of_ble_eq_true rfl) (fun F hF hQ => ?_)
  have hr := (hC.1 s (by omega)).1
  have hct := (hC.1 s (by omega)).2
  refine g_iload_n hF (by decide +kernel : decode cX4_hash 0 = .ok (.iload_n 1, 1)) rfl ?_
  refine g_callS hF lkX4_51 (c_X4_checkSlot X hX _ (by omega) (by omega) _) (by decide +kernel : decode cX4_hash 1 = .ok (.invokestatic 51, 3)) (by decide) rfl rfl (Nat.le_of_ble_eq_true rfl) (fun v1 m1 h1 => ?_)
  obtain ⟨rfl, e1⟩ := h1
  obtain rfl := e1.symm
  refine g_aload_n hF (by decide +kernel : decode cX4_hash 4 = .ok (.aload_n 0, 1)) rfl ?_
  refine g_getC hF lkX4_11 (by decide +kernel : decode cX4_hash 5 = .ok (.getfield 11, 3)) jok38 rfl rfl ?_
  refine g_iload_n hF (by decide +kernel : decode cX4_hash 8 = .ok (.iload_n 1, 1)) rfl ?_
  refine g_aaload_39 hF (by decide +kernel : decode cX4_hash 9 = .ok (.aaload, 1)) (rfl) hs ?_
  refine g_callV hF lkX4_124 (c_X2_sumOfPairs X hX _ (show s < 19 by omega) _ (by assumption)) (by decide +kernel : decode cX4_hash 10 = .ok (.invokevirtual 124, 3)) (by decide) rfl rfl rfl rfl (show s < 19 by omega) (Nat.le_of_ble_eq_true rfl) (fun v10 m10 h10 => ?_)
  obtain ⟨rfl, e10⟩ := h10
  obtain rfl := e10.symm
  refine g_ireturn hF hQ (by decide +kernel : decode cX4_hash 13 = .ok (.ireturn, 1)) ?_
  exact ⟨rfl, CQ_rfl hC⟩
set_option maxHeartbeats 4000000 in
set_option maxRecDepth 100000 in
theorem c_X4_keysHash (X : jX) (hX : jxok X) (s : Nat) (hs : s < 8) (m : jM) (hC : CI m) : Con X yX4_keysHash cX4_keysHash 2 (some .int) 12 [vR 2 38, vI s] m (fun o m' => o = some (vI (keysN (m s))) ∧ CQ m m') := by
  refine Con.of hX (by decide) (Nat.le_of_ble_eq_true rfl) (fun F hF hQ => ?_)
  have hr := (hC.1 s (by omega)).1
  have hct := (hC.1 s (by omega)).2
  refine g_iload_n hF (by decide +kernel : decode cX4_keysHash 0 = .ok (.iload_n 1, 1)) rfl ?_
  refine g_callS hF lkX4_51 (c_X4_checkSlot X hX _ (by omega) (by omega) _) (by decide +kernel : decode cX4_keysHash 1 = .ok (.invokestatic 51, 3)) (by decide) rfl rfl (Nat.le_of_ble_eq_true rfl) (fun v1 m1 h1 => ?_)
  obtain ⟨rfl, e1⟩ := h1
  obtain rfl := e1.symm
  refine g_aload_n hF (by decide +kernel : decode cX4_keysHash 4 = .ok (.aload_n 0, 1)) rfl ?_
  refine g_getC hF lkX4_11 (by decide +kernel : decode cX4_keysHash 5 = .ok (.getfield 11, 3)) jok38 rfl rfl ?_
  refine g_iload_n hF (by decide +kernel : decode cX4_keysHash 8 = .ok (.iload_n 1, 1)) rfl ?_
  refine g_aaload_39 hF (by decide +kernel : decode cX4_keysHash 9 = .ok (.aaload, 1)) (rfl) hs ?_
  refine g_callV hF lkX4_128 (c_X2_sumOfKeys X hX _ (show s < 19 by omega) _ (by assumption)) (by decide +kernel : decode cX4_keysHash 10 = .ok (.invokevirtual 128, 3)) (by decide) rfl rfl rfl rfl (show s < 19 by omega) (Nat.le_of_ble_eq_true rfl) (fun v10 m10 h10 => ?_)
  obtain ⟨rfl, e10⟩ := h10
  obtain rfl := e10.symm
  refine g_ireturn hF hQ (by decide +kernel : decode cX4_keysHash 13 = .ok (.ireturn, 1)) ?_
  exact ⟨rfl, CQ_rfl hC⟩
set_option maxHeartbeats 4000000 in
set_option maxRecDepth 100000 in
theorem c_X4_dropValue (X : jX) (hX : jxok X) (s : Nat) (hs : s < 8) (v : Int) (hv : num v) (m : jM) (hC : CI m) : Con X yX4_dropValue cX4_dropValue 3 (some .int) 12 [vR 2 38, vI s, vI v] m (fun o m' => o = some (vI (cnt (m s) - cnt (fun z => if m s z = v then -2 else m s z))) ∧ CW m s (fun z => if m s z = v then -2 else m s z) m') := by
  refine Con.of hX (by decide) (Nat.le_of_ble_eq_true rfl) (fun F hF hQ => ?_)
  have hr := (hC.1 s (by omega)).1
  obtain ⟨nx, hn, h0⟩ := hC.2.2.1
  unfold num at hv
  refine g_iload_n hF (by decide +kernel : decode cX4_dropValue 0 = .ok (.iload_n 1, 1)) rfl ?_
  refine g_callS hF lkX4_51 (c_X4_checkSlot X hX _ (by omega) (by omega) _) (by decide +kernel : decode cX4_dropValue 1 = .ok (.invokestatic 51, 3)) (by decide) rfl rfl (Nat.le_of_ble_eq_true rfl) (fun v1 m1 h1 => ?_)
  obtain ⟨rfl, e1⟩ := h1
  obtain rfl := e1.symm
  refine g_iload_n hF (by decide +kernel : decode cX4_dropValue 4 = .ok (.iload_n 2, 1)) rfl ?_
  refine g_callS hF lkX4_55 (c_X4_checkNumber X hX _ (by omega) (by unfold num; omega) _) (by decide +kernel : decode cX4_dropValue 5 = .ok (.invokestatic 55, 3)) (by decide) rfl rfl (Nat.le_of_ble_eq_true rfl) (fun v5 m5 h5 => ?_)
  obtain ⟨rfl, e5⟩ := h5
  obtain rfl := e5.symm
  refine g_aload_n hF (by decide +kernel : decode cX4_dropValue 8 = .ok (.aload_n 0, 1)) rfl ?_
  refine g_iload_n hF (by decide +kernel : decode cX4_dropValue 9 = .ok (.iload_n 1, 1)) rfl ?_
  refine g_callV hF lkX4_58 (c_X4_openToWrite X hX _ (by assumption) _ (by assumption) _ (by assumption) (by assumption)) (by decide +kernel : decode cX4_dropValue 10 = .ok (.invokevirtual 58, 3)) (by decide) rfl rfl rfl rfl jok38 (Nat.le_of_ble_eq_true rfl) (fun v10 m10 h10 => ?_)
  obtain ⟨rfl, e10⟩ := h10
  have ks : m10 s = m s := by rw [e10]; exact keepM_row (by omega) (by omega) (by omega) (by omega)
  have kt : tok m10 s := by rw [e10]; exact (keepM_CI hC hs hs hn).1 s (by omega)
  have kr := kt.1
  have cw0 : CW m s (m s) m10 := by rw [e10]; exact CW_keep hC hs hn h0
  refine g_iload_n hF (by decide +kernel : decode cX4_dropValue 13 = .ok (.iload_n 2, 1)) rfl ?_
  refine g_callV hF lkX4_131 (c_X2_eraseValue X hX _ (show s < 19 by omega) _ (by omega) _ kt) (by decide +kernel : decode cX4_dropValue 14 = .ok (.invokevirtual 131, 3)) (by decide) rfl rfl rfl rfl (show s < 19 by omega) (Nat.le_of_ble_eq_true rfl) (fun v14 m14 h14 => ?_)
  obtain ⟨rfl, e14⟩ := h14
  have cw : CW m s (fun z => if m s z = v then -2 else m s z) m14 := by rw [e14, ks, e10]; exact CW_tset hC hs hn h0 (rowok_if hr)
  refine g_ireturn hF hQ (by decide +kernel : decode cX4_dropValue 17 = .ok (.ireturn, 1)) ?_
  exact ⟨by rw [ks], cw⟩
set_option maxHeartbeats 4000000 in
set_option maxRecDepth 100000 in
theorem c_X4_dropOdd (X : jX) (hX : jxok X) (s : Nat) (hs : s < 8) (m : jM) (hC : CI m) : Con X yX4_dropOdd cX4_dropOdd 2 (some .int) 12 [vR 2 38, vI s] m (fun o m' => o = some (vI (cnt (m s) - cnt (fun z => if 0 < m s z ∧ jand (m s z) 1 = 1 then -2 else m s z))) ∧ CW m s (fun z => if 0 < m s z ∧ jand (m s z) 1 = 1 then -2 else m s z) m') := by
  refine Con.of hX (by decide) (Nat.le_of_ble_eq_true rfl) (fun F hF hQ => ?_)
  have hr := (hC.1 s (by omega)).1
  obtain ⟨nx, hn, h0⟩ := hC.2.2.1
  refine g_iload_n hF (by decide +kernel : decode cX4_dropOdd 0 = .ok (.iload_n 1, 1)) rfl ?_
  refine g_callS hF lkX4_51 (c_X4_checkSlot X hX _ (by omega) (by omega) _) (by decide +kernel : decode cX4_dropOdd 1 = .ok (.invokestatic 51, 3)) (by decide) rfl rfl (Nat.le_of_ble_eq_true rfl) (fun v1 m1 h1 => ?_)
  obtain ⟨rfl, e1⟩ := h1
  obtain rfl := e1.symm
  refine g_aload_n hF (by decide +kernel : decode cX4_dropOdd 4 = .ok (.aload_n 0, 1)) rfl ?_
  refine g_iload_n hF (by decide +kernel : decode cX4_dropOdd 5 = .ok (.iload_n 1, 1)) rfl ?_
  refine g_callV hF lkX4_58 (c_X4_openToWrite X hX _ (by assumption) _ (by assumption) _ (by assumption) (by assumption)) (by decide +kernel : decode cX4_dropOdd 6 = .ok (.invokevirtual 58, 3)) (by decide) rfl rfl rfl rfl jok38 (Nat.le_of_ble_eq_true rfl) (fun v6 m6 h6 => ?_)
  obtain ⟨rfl, e6⟩ := h6
  have ks : m6 s = m s := by rw [e6]; exact keepM_row (by omega) (by omega) (by omega) (by omega)
  have kt : tok m6 s := by rw [e6]; exact (keepM_CI hC hs hs hn).1 s (by omega)
  have kr := kt.1
  have cw0 : CW m s (m s) m6 := by rw [e6]; exact CW_keep hC hs hn h0
  refine g_callV hF lkX4_134 (c_X2_eraseOdd X hX _ (show s < 19 by omega) _ kt) (by decide +kernel : decode cX4_dropOdd 9 = .ok (.invokevirtual 134, 3)) (by decide) rfl rfl rfl rfl (show s < 19 by omega) (Nat.le_of_ble_eq_true rfl) (fun v9 m9 h9 => ?_)
  obtain ⟨rfl, e9⟩ := h9
  have cw : CW m s (fun z => if 0 < m s z ∧ jand (m s z) 1 = 1 then -2 else m s z) m9 := by rw [e9, ks, e6]; exact CW_tset hC hs hn h0 (rowok_if hr)
  refine g_ireturn hF hQ (by decide +kernel : decode cX4_dropOdd 12 = .ok (.ireturn, 1)) ?_
  exact ⟨by rw [ks], cw⟩
set_option maxHeartbeats 4000000 in
set_option maxRecDepth 100000 in
theorem c_X4_shift (X : jX) (hX : jxok X) (s : Nat) (hs : s < 8) (b : Int) (hb : 0 ≤ b ∧ b ≤ 255) (m : jM) (hC : CI m) : Con X yX4_shift cX4_shift 3 (some .int) 12 [vR 2 38, vI s, vI b] m (fun o m' => o = some (vI (sumN (fun z => if m s z < 0 then 0 else if wr (m s z + b) = m s z then 0 else 1) 257)) ∧ CW m s (fun z => if m s z < 0 then m s z else wr (m s z + b)) m') := by
  refine Con.of hX (by decide) (Nat.le_of_ble_eq_true rfl) (fun F hF hQ => ?_)
  have hr := (hC.1 s (by omega)).1
  obtain ⟨nx, hn, h0⟩ := hC.2.2.1
  refine g_iload_n hF (by decide +kernel : decode cX4_shift 0 = .ok (.iload_n 1, 1)) rfl ?_
  refine g_callS hF lkX4_51 (c_X4_checkSlot X hX _ (by omega) (by omega) _) (by decide +kernel : decode cX4_shift 1 = .ok (.invokestatic 51, 3)) (by decide) rfl rfl (Nat.le_of_ble_eq_true rfl) (fun v1 m1 h1 => ?_)
  obtain ⟨rfl, e1⟩ := h1
  obtain rfl := e1.symm
  refine g_iload_n hF (by decide +kernel : decode cX4_shift 4 = .ok (.iload_n 2, 1)) rfl ?_
  refine g_iconst hF (by decide +kernel : decode cX4_shift 5 = .ok (.iconst 0, 1)) ?_
  refine g_sipush hF (by decide +kernel : decode cX4_shift 6 = .ok (.sipush 255, 3)) (by decide) ?_
  refine g_callS hF lkX4_70 (c_X4_checkRange X hX _ _ _ (by omega) (by omega) (by omega) (by omega) _) (by decide +kernel : decode cX4_shift 9 = .ok (.invokestatic 70, 3)) (by decide) rfl rfl (Nat.le_of_ble_eq_true rfl) (fun v9 m9 h9 => ?_)
  obtain ⟨rfl, e9⟩ := h9
  obtain rfl := e9.symm
  refine g_aload_n hF (by decide +kernel : decode cX4_shift 12 = .ok (.aload_n 0, 1)) rfl ?_
  refine g_iload_n hF (by decide +kernel : decode cX4_shift 13 = .ok (.iload_n 1, 1)) rfl ?_
  refine g_callV hF lkX4_58 (c_X4_openToWrite X hX _ (by assumption) _ (by assumption) _ (by assumption) (by assumption)) (by decide +kernel : decode cX4_shift 14 = .ok (.invokevirtual 58, 3)) (by decide) rfl rfl rfl rfl jok38 (Nat.le_of_ble_eq_true rfl) (fun v14 m14 h14 => ?_)
  obtain ⟨rfl, e14⟩ := h14
  have ks : m14 s = m s := by rw [e14]; exact keepM_row (by omega) (by omega) (by omega) (by omega)
  have kt : tok m14 s := by rw [e14]; exact (keepM_CI hC hs hs hn).1 s (by omega)
  have kr := kt.1
  have cw0 : CW m s (m s) m14 := by rw [e14]; exact CW_keep hC hs hn h0
  refine g_iload_n hF (by decide +kernel : decode cX4_shift 17 = .ok (.iload_n 2, 1)) rfl ?_
  refine g_callV hF lkX4_137 (c_X2_addToAll X hX _ (show s < 19 by omega) _ hb _ kt) (by decide +kernel : decode cX4_shift 18 = .ok (.invokevirtual 137, 3)) (by decide) rfl rfl rfl rfl (show s < 19 by omega) (Nat.le_of_ble_eq_true rfl) (fun v18 m18 h18 => ?_)
  obtain ⟨rfl, e18⟩ := h18
  have cw : CW m s (fun z => if m s z < 0 then m s z else wr (m s z + b)) m18 := by rw [e18, ks, e14]; exact CW_tset hC hs hn h0 (shift_ok hr hb)
  refine g_ireturn hF hQ (by decide +kernel : decode cX4_shift 21 = .ok (.ireturn, 1)) ?_
  exact ⟨by rw [ks], cw⟩

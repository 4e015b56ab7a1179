set_option maxHeartbeats 4000000 in
set_option maxRecDepth 100000 in
theorem c_X4_merged (X : jX) (hX : jxok X) (a v h : Int) (ha : -2 ≤ a ∧ a ≤ 255) (hv : 0 ≤ v ∧ v ≤ 255) (hh : jr h) (m : jM) : Con X yX4_merged cX4_merged 3 (some .int) 2 [vI a, vI v, vI h] m (fun o m' => o = some (vI (mergeV a v h)) ∧ m' = m) := by
  refine Con.of hX (by decide) (Nat.le_of_ble_eq_true rfl) (fun F hF hQ => ?_)
  refine g_iload_n hF (by decide +kernel : decode cX4_merged 0 = .ok (.iload_n 0, 1)) rfl ?_
  refine g_bipush hF (by decide +kernel : decode cX4_merged 1 = .ok (.bipush (-2), 2)) (by decide) ?_
  refine g_icmp_eq hF (tgt := 11) (by decide +kernel : decode cX4_merged 3 = .ok (.if_icmp .eq 8, 3)) (by decide) (by omega) (by omega) (fun c3 => ?_) (fun c3 => ?_)
  · skip
    refine g_iload_n hF (by decide +kernel : decode cX4_merged 11 = .ok (.iload_n 1, 1)) rfl ?_
    refine g_ireturn hF hQ (by decide +kernel : decode cX4_merged 12 = .ok (.ireturn, 1)) ?_
    exact ⟨by unfold mergeV; rw [if_pos (by omega)], rfl⟩
  · skip
    refine g_iload_n hF (by decide +kernel : decode cX4_merged 6 = .ok (.iload_n 0, 1)) rfl ?_
    refine g_iconst hF (by decide +kernel : decode cX4_merged 7 = .ok (.iconst (-1), 1)) ?_
    refine g_icmp_ne hF (tgt := 13) (by decide +kernel : decode cX4_merged 8 = .ok (.if_icmp .ne 5, 3)) (by decide) (by omega) (by omega) (fun c8 => ?_) (fun c8 => ?_)
    · skip
      refine g_iload_n hF (by decide +kernel : decode cX4_merged 13 = .ok (.iload_n 2, 1)) rfl ?_
      refine g_bipush hF (by decide +kernel : decode cX4_merged 14 = .ok (.bipush 43, 2)) (by decide) ?_
      refine g_icmp_ne hF (tgt := 26) (by decide +kernel : decode cX4_merged 16 = .ok (.if_icmp .ne 10, 3)) (by decide) (by omega) (by omega) (fun c16 => ?_) (fun c16 => ?_)
      · skip
        refine g_iload_n hF (by decide +kernel : decode cX4_merged 26 = .ok (.iload_n 2, 1)) rfl ?_
        refine g_bipush hF (by decide +kernel : decode cX4_merged 27 = .ok (.bipush 62, 2)) (by decide) ?_
        refine g_icmp_ne hF (tgt := 40) (by decide +kernel : decode cX4_merged 29 = .ok (.if_icmp .ne 11, 3)) (by decide) (by omega) (by omega) (fun c29 => ?_) (fun c29 => ?_)
        · skip
          refine g_bipush hF (by decide +kernel : decode cX4_merged 40 = .ok (.bipush (-2), 2)) (by decide) ?_
          refine g_ireturn hF hQ (by decide +kernel : decode cX4_merged 42 = .ok (.ireturn, 1)) ?_
          exact ⟨by unfold mergeV; rw [if_neg (by omega), if_neg (by omega), if_neg (by omega)], rfl⟩
        · skip
          refine g_iload_n hF (by decide +kernel : decode cX4_merged 32 = .ok (.iload_n 0, 1)) rfl ?_
          refine g_iload_n hF (by decide +kernel : decode cX4_merged 33 = .ok (.iload_n 1, 1)) rfl ?_
          refine g_max hF lkX4_284 (by decide +kernel : decode cX4_merged 34 = .ok (.invokestatic 284, 3)) (by decide) (by omega) (by omega) (Nat.le_of_ble_eq_true rfl) ?_
          refine g_goto hF (tgt := 42) (by decide +kernel : decode cX4_merged 37 = .ok (.goto 5, 3)) (by decide) ?_
          refine g_ireturn hF hQ (by decide +kernel : decode cX4_merged 42 = .ok (.ireturn, 1)) ?_
          exact ⟨by unfold mergeV; rw [if_neg (show ¬ a < 0 by omega), if_neg c16, if_pos (show h = 62 by omega)], rfl⟩
      · skip
        refine g_iload_n hF (by decide +kernel : decode cX4_merged 19 = .ok (.iload_n 0, 1)) rfl ?_
        refine g_iload_n hF (by decide +kernel : decode cX4_merged 20 = .ok (.iload_n 1, 1)) rfl ?_
        refine g_iadd hF (by decide +kernel : decode cX4_merged 21 = .ok (.iadd, 1)) ?_
        refine g_callS hF lkX4_281 (c_X4_wrapped X hX _ (by omega) _) (by decide +kernel : decode cX4_merged 22 = .ok (.invokestatic 281, 3)) (by decide) rfl rfl (Nat.le_of_ble_eq_true rfl) (fun v22 m22 h22 => ?_)
        obtain ⟨rfl, e22⟩ := h22
        obtain rfl := e22.symm
        refine g_ireturn hF hQ (by decide +kernel : decode cX4_merged 25 = .ok (.ireturn, 1)) ?_
        exact ⟨by unfold mergeV; rw [if_neg (by omega), if_pos (by omega)], rfl⟩
    · skip
      refine g_iload_n hF (by decide +kernel : decode cX4_merged 11 = .ok (.iload_n 1, 1)) rfl ?_
      refine g_ireturn hF hQ (by decide +kernel : decode cX4_merged 12 = .ok (.ireturn, 1)) ?_
      exact ⟨by unfold mergeV; rw [if_pos (by omega)], rfl⟩
set_option maxHeartbeats 4000000 in
set_option maxRecDepth 100000 in
theorem c_X4_doubled (X : jX) (hX : jxok X) (a : Int) (ha : -2 ≤ a ∧ a ≤ 255) (m : jM) : Con X yX4_doubled cX4_doubled 1 (some .int) 2 [vI a] m (fun o m' => o = some (vI (doubledV a)) ∧ m' = m) := by
  refine Con.of hX (by decide) (Nat.le_of_ble_eq_true rfl) (fun F hF hQ => ?_)
  refine g_iload_n hF (by decide +kernel : decode cX4_doubled 0 = .ok (.iload_n 0, 1)) rfl ?_
  refine g_bipush hF (by decide +kernel : decode cX4_doubled 1 = .ok (.bipush (-2), 2)) (by decide) ?_
  refine g_icmp_eq hF (tgt := 11) (by decide +kernel : decode cX4_doubled 3 = .ok (.if_icmp .eq 8, 3)) (by decide) (by omega) (by omega) (fun c3 => ?_) (fun c3 => ?_)
  · skip
    refine g_iload_n hF (by decide +kernel : decode cX4_doubled 11 = .ok (.iload_n 0, 1)) rfl ?_
    refine g_ireturn hF hQ (by decide +kernel : decode cX4_doubled 12 = .ok (.ireturn, 1)) ?_
    exact ⟨by unfold doubledV; rw [if_pos (by omega)], rfl⟩
  · skip
    refine g_iload_n hF (by decide +kernel : decode cX4_doubled 6 = .ok (.iload_n 0, 1)) rfl ?_
    refine g_iconst hF (by decide +kernel : decode cX4_doubled 7 = .ok (.iconst (-1), 1)) ?_
    refine g_icmp_ne hF (tgt := 13) (by decide +kernel : decode cX4_doubled 8 = .ok (.if_icmp .ne 5, 3)) (by decide) (by omega) (by omega) (fun c8 => ?_) (fun c8 => ?_)
    · skip
      refine g_iload_n hF (by decide +kernel : decode cX4_doubled 13 = .ok (.iload_n 0, 1)) rfl ?_
      refine g_if_ne hF (tgt := 22) (by decide +kernel : decode cX4_doubled 14 = .ok (.ifCond .ne 8, 3)) (by decide) (by omega) (fun c14 => ?_) (fun c14 => ?_)
      · skip
        refine g_iconst hF (by decide +kernel : decode cX4_doubled 22 = .ok (.iconst 2, 1)) ?_
        refine g_iload_n hF (by decide +kernel : decode cX4_doubled 23 = .ok (.iload_n 0, 1)) rfl ?_
        refine g_imul hF (by decide +kernel : decode cX4_doubled 24 = .ok (.imul, 1)) ?_
        refine g_callS hF lkX4_281 (c_X4_wrapped X hX _ (by omega) _) (by decide +kernel : decode cX4_doubled 25 = .ok (.invokestatic 281, 3)) (by decide) rfl rfl (Nat.le_of_ble_eq_true rfl) (fun v25 m25 h25 => ?_)
        obtain ⟨rfl, e25⟩ := h25
        obtain rfl := e25.symm
        refine g_ireturn hF hQ (by decide +kernel : decode cX4_doubled 28 = .ok (.ireturn, 1)) ?_
        exact ⟨by unfold doubledV; rw [if_neg (by omega), if_neg (by omega)], rfl⟩
      · skip
        refine g_bipush hF (by decide +kernel : decode cX4_doubled 17 = .ok (.bipush (-2), 2)) (by decide) ?_
        refine g_goto hF (tgt := 28) (by decide +kernel : decode cX4_doubled 19 = .ok (.goto 9, 3)) (by decide) ?_
        refine g_ireturn hF hQ (by decide +kernel : decode cX4_doubled 28 = .ok (.ireturn, 1)) ?_
        exact ⟨by unfold doubledV; rw [if_neg (by omega), if_pos (by omega)], rfl⟩
    · skip
      refine g_iload_n hF (by decide +kernel : decode cX4_doubled 11 = .ok (.iload_n 0, 1)) rfl ?_
      refine g_ireturn hF hQ (by decide +kernel : decode cX4_doubled 12 = .ok (.ireturn, 1)) ?_
      exact ⟨by unfold doubledV; rw [if_pos (by omega)], rfl⟩
set_option maxHeartbeats 4000000 in
set_option maxRecDepth 100000 in
theorem c_X4_computed (X : jX) (hX : jxok X) (a k h : Int) (ha : -2 ≤ a ∧ a ≤ 255) (hk : num k) (hh : jr h) (m : jM) : Con X yX4_computed cX4_computed 4 (some .int) 3 [vI a, vI k, vI h] m (fun o m' => o = some (vI (computeV a k h)) ∧ m' = m) := by
  refine Con.of hX (by decide) (Nat.le_of_ble_eq_true rfl) (fun F hF hQ => ?_)
  unfold num at hk
  have j17 : ∀ x : Int, ((x = 1 ∧ 0 ≤ a) ∨ (x = 0 ∧ a < 0)) → jG F X m 17 [(0, vI a), (1, vI k), (2, vI h), (3, vI x)] [] := by
    intro x hx
    refine g_iload_n hF (by decide +kernel : decode cX4_computed 17 = .ok (.iload_n 2, 1)) rfl ?_
    refine g_bipush hF (by decide +kernel : decode cX4_computed 18 = .ok (.bipush 105, 2)) (by decide) ?_
    refine g_icmp_ne hF (tgt := 38) (by decide +kernel : decode cX4_computed 20 = .ok (.if_icmp .ne 18, 3)) (by decide) (by omega) (by omega) (fun c20 => ?_) (fun c20 => ?_)
    · skip
      refine g_iload_n hF (by decide +kernel : decode cX4_computed 38 = .ok (.iload_n 2, 1)) rfl ?_
      refine g_bipush hF (by decide +kernel : decode cX4_computed 39 = .ok (.bipush 100, 2)) (by decide) ?_
      refine g_icmp_ne hF (tgt := 61) (by decide +kernel : decode cX4_computed 41 = .ok (.if_icmp .ne 20, 3)) (by decide) (by omega) (by omega) (fun c41 => ?_) (fun c41 => ?_)
      · skip
        refine g_iload_n hF (by decide +kernel : decode cX4_computed 61 = .ok (.iload_n 2, 1)) rfl ?_
        refine g_bipush hF (by decide +kernel : decode cX4_computed 62 = .ok (.bipush 102, 2)) (by decide) ?_
        refine g_icmp_ne hF (tgt := 81) (by decide +kernel : decode cX4_computed 64 = .ok (.if_icmp .ne 17, 3)) (by decide) (by omega) (by omega) (fun c64 => ?_) (fun c64 => ?_)
        · skip
          refine g_iload_n hF (by decide +kernel : decode cX4_computed 81 = .ok (.iload_n 0, 1)) rfl ?_
          refine g_callS hF lkX4_290 (c_X4_doubled X hX _ (by omega) _) (by decide +kernel : decode cX4_computed 82 = .ok (.invokestatic 290, 3)) (by decide) rfl rfl (Nat.le_of_ble_eq_true rfl) (fun v82 m82 h82 => ?_)
          obtain ⟨rfl, e82⟩ := h82
          obtain rfl := e82.symm
          refine g_ireturn hF hQ (by decide +kernel : decode cX4_computed 85 = .ok (.ireturn, 1)) ?_
          exact ⟨by unfold computeV; first | (rw [if_pos (by omega), if_pos (by omega)]; done) | (rw [if_pos (by omega), if_neg (by omega)]; done) | (rw [if_neg (by omega), if_pos (by omega), if_pos (by omega)]; done) | (rw [if_neg (by omega), if_pos (by omega), if_neg (by omega)]; done) | (rw [if_neg (by omega), if_neg (by omega), if_pos (by omega), if_pos (by omega)]; done) | (rw [if_neg (by omega), if_neg (by omega), if_pos (by omega), if_neg (by omega)]; done) | (rw [if_neg (by omega), if_neg (by omega), if_neg (by omega)]; done) | (rw [if_neg (show ¬ h = 105 by omega), if_neg (show ¬ h = 100 by omega), if_pos (show h = 102 by omega), if_pos (show a < 0 by omega)]; rfl), rfl⟩
        · skip
          refine g_iload_n hF (by decide +kernel : decode cX4_computed 67 = .ok (.iload_n 3, 1)) rfl ?_
          refine g_if_eq hF (tgt := 75) (by decide +kernel : decode cX4_computed 68 = .ok (.ifCond .eq 7, 3)) (by decide) (by omega) (fun c68 => ?_) (fun c68 => ?_)
          · skip
            refine g_iload_n hF (by decide +kernel : decode cX4_computed 75 = .ok (.iload_n 1, 1)) rfl ?_
            refine g_iconst hF (by decide +kernel : decode cX4_computed 76 = .ok (.iconst 0, 1)) ?_
            refine g_max hF lkX4_284 (by decide +kernel : decode cX4_computed 77 = .ok (.invokestatic 284, 3)) (by decide) (by omega) (by omega) (Nat.le_of_ble_eq_true rfl) ?_
            refine g_ireturn hF hQ (by decide +kernel : decode cX4_computed 80 = .ok (.ireturn, 1)) ?_
            exact ⟨by unfold computeV; first | (rw [if_pos (by omega), if_pos (by omega)]; done) | (rw [if_pos (by omega), if_neg (by omega)]; done) | (rw [if_neg (by omega), if_pos (by omega), if_pos (by omega)]; done) | (rw [if_neg (by omega), if_pos (by omega), if_neg (by omega)]; done) | (rw [if_neg (by omega), if_neg (by omega), if_pos (by omega), if_pos (by omega)]; done) | (rw [if_neg (by omega), if_neg (by omega), if_pos (by omega), if_neg (by omega)]; done) | (rw [if_neg (by omega), if_neg (by omega), if_neg (by omega)]; done) | (rw [if_neg (show ¬ h = 105 by omega), if_neg (show ¬ h = 100 by omega), if_pos (show h = 102 by omega), if_pos (show a < 0 by omega)]; rfl), rfl⟩
          · skip
            refine g_iload_n hF (by decide +kernel : decode cX4_computed 71 = .ok (.iload_n 0, 1)) rfl ?_
            refine g_goto hF (tgt := 80) (by decide +kernel : decode cX4_computed 72 = .ok (.goto 8, 3)) (by decide) ?_
            refine g_ireturn hF hQ (by decide +kernel : decode cX4_computed 80 = .ok (.ireturn, 1)) ?_
            exact ⟨by unfold computeV; first | (rw [if_pos (by omega), if_pos (by omega)]; done) | (rw [if_pos (by omega), if_neg (by omega)]; done) | (rw [if_neg (by omega), if_pos (by omega), if_pos (by omega)]; done) | (rw [if_neg (by omega), if_pos (by omega), if_neg (by omega)]; done) | (rw [if_neg (by omega), if_neg (by omega), if_pos (by omega), if_pos (by omega)]; done) | (rw [if_neg (by omega), if_neg (by omega), if_pos (by omega), if_neg (by omega)]; done) | (rw [if_neg (by omega), if_neg (by omega), if_neg (by omega)]; done) | (rw [if_neg (show ¬ h = 105 by omega), if_neg (show ¬ h = 100 by omega), if_pos (show h = 102 by omega), if_pos (show a < 0 by omega)]; rfl), rfl⟩
      · skip
        refine g_iload_n hF (by decide +kernel : decode cX4_computed 44 = .ok (.iload_n 3, 1)) rfl ?_
        refine g_if_eq hF (tgt := 58) (by decide +kernel : decode cX4_computed 45 = .ok (.ifCond .eq 13, 3)) (by decide) (by omega) (fun c45 => ?_) (fun c45 => ?_)
        · skip
          refine g_bipush hF (by decide +kernel : decode cX4_computed 58 = .ok (.bipush (-2), 2)) (by decide) ?_
          refine g_ireturn hF hQ (by decide +kernel : decode cX4_computed 60 = .ok (.ireturn, 1)) ?_
          exact ⟨by unfold computeV; first | (rw [if_pos (by omega), if_pos (by omega)]; done) | (rw [if_pos (by omega), if_neg (by omega)]; done) | (rw [if_neg (by omega), if_pos (by omega), if_pos (by omega)]; done) | (rw [if_neg (by omega), if_pos (by omega), if_neg (by omega)]; done) | (rw [if_neg (by omega), if_neg (by omega), if_pos (by omega), if_pos (by omega)]; done) | (rw [if_neg (by omega), if_neg (by omega), if_pos (by omega), if_neg (by omega)]; done) | (rw [if_neg (by omega), if_neg (by omega), if_neg (by omega)]; done) | (rw [if_neg (show ¬ h = 105 by omega), if_neg (show ¬ h = 100 by omega), if_pos (show h = 102 by omega), if_pos (show a < 0 by omega)]; rfl), rfl⟩
        · skip
          refine g_iload_n hF (by decide +kernel : decode cX4_computed 48 = .ok (.iload_n 0, 1)) rfl ?_
          refine g_if_le hF (tgt := 58) (by decide +kernel : decode cX4_computed 49 = .ok (.ifCond .le 9, 3)) (by decide) (by omega) (fun c49 => ?_) (fun c49 => ?_)
          · skip
            refine g_bipush hF (by decide +kernel : decode cX4_computed 58 = .ok (.bipush (-2), 2)) (by decide) ?_
            refine g_ireturn hF hQ (by decide +kernel : decode cX4_computed 60 = .ok (.ireturn, 1)) ?_
            exact ⟨by unfold computeV; first | (rw [if_pos (by omega), if_pos (by omega)]; done) | (rw [if_pos (by omega), if_neg (by omega)]; done) | (rw [if_neg (by omega), if_pos (by omega), if_pos (by omega)]; done) | (rw [if_neg (by omega), if_pos (by omega), if_neg (by omega)]; done) | (rw [if_neg (by omega), if_neg (by omega), if_pos (by omega), if_pos (by omega)]; done) | (rw [if_neg (by omega), if_neg (by omega), if_pos (by omega), if_neg (by omega)]; done) | (rw [if_neg (by omega), if_neg (by omega), if_neg (by omega)]; done) | (rw [if_neg (show ¬ h = 105 by omega), if_neg (show ¬ h = 100 by omega), if_pos (show h = 102 by omega), if_pos (show a < 0 by omega)]; rfl), rfl⟩
          · skip
            refine g_iload_n hF (by decide +kernel : decode cX4_computed 52 = .ok (.iload_n 0, 1)) rfl ?_
            refine g_iconst hF (by decide +kernel : decode cX4_computed 53 = .ok (.iconst 1, 1)) ?_
            refine g_isub hF (by decide +kernel : decode cX4_computed 54 = .ok (.isub, 1)) ?_
            refine g_goto hF (tgt := 60) (by decide +kernel : decode cX4_computed 55 = .ok (.goto 5, 3)) (by decide) ?_
            refine g_ireturn hF hQ (by decide +kernel : decode cX4_computed 60 = .ok (.ireturn, 1)) ?_
            exact ⟨by unfold computeV; first | (rw [if_pos (by omega), if_pos (by omega)]; done) | (rw [if_pos (by omega), if_neg (by omega)]; done) | (rw [if_neg (by omega), if_pos (by omega), if_pos (by omega)]; done) | (rw [if_neg (by omega), if_pos (by omega), if_neg (by omega)]; done) | (rw [if_neg (by omega), if_neg (by omega), if_pos (by omega), if_pos (by omega)]; done) | (rw [if_neg (by omega), if_neg (by omega), if_pos (by omega), if_neg (by omega)]; done) | (rw [if_neg (by omega), if_neg (by omega), if_neg (by omega)]; done) | (rw [if_neg (show ¬ h = 105 by omega), if_neg (show ¬ h = 100 by omega), if_pos (show h = 102 by omega), if_pos (show a < 0 by omega)]; rfl), rfl⟩
    · skip
      refine g_iload_n hF (by decide +kernel : decode cX4_computed 23 = .ok (.iload_n 3, 1)) rfl ?_
      refine g_if_eq hF (tgt := 36) (by decide +kernel : decode cX4_computed 24 = .ok (.ifCond .eq 12, 3)) (by decide) (by omega) (fun c24 => ?_) (fun c24 => ?_)
      · skip
        refine g_iconst hF (by decide +kernel : decode cX4_computed 36 = .ok (.iconst 0, 1)) ?_
        refine g_ireturn hF hQ (by decide +kernel : decode cX4_computed 37 = .ok (.ireturn, 1)) ?_
        exact ⟨by unfold computeV; first | (rw [if_pos (by omega), if_pos (by omega)]; done) | (rw [if_pos (by omega), if_neg (by omega)]; done) | (rw [if_neg (by omega), if_pos (by omega), if_pos (by omega)]; done) | (rw [if_neg (by omega), if_pos (by omega), if_neg (by omega)]; done) | (rw [if_neg (by omega), if_neg (by omega), if_pos (by omega), if_pos (by omega)]; done) | (rw [if_neg (by omega), if_neg (by omega), if_pos (by omega), if_neg (by omega)]; done) | (rw [if_neg (by omega), if_neg (by omega), if_neg (by omega)]; done) | (rw [if_neg (show ¬ h = 105 by omega), if_neg (show ¬ h = 100 by omega), if_pos (show h = 102 by omega), if_pos (show a < 0 by omega)]; rfl), rfl⟩
      · skip
        refine g_iload_n hF (by decide +kernel : decode cX4_computed 27 = .ok (.iload_n 0, 1)) rfl ?_
        refine g_iconst hF (by decide +kernel : decode cX4_computed 28 = .ok (.iconst 1, 1)) ?_
        refine g_iadd hF (by decide +kernel : decode cX4_computed 29 = .ok (.iadd, 1)) ?_
        refine g_callS hF lkX4_281 (c_X4_wrapped X hX _ (by omega) _) (by decide +kernel : decode cX4_computed 30 = .ok (.invokestatic 281, 3)) (by decide) rfl rfl (Nat.le_of_ble_eq_true rfl) (fun v30 m30 h30 => ?_)
        obtain ⟨rfl, e30⟩ := h30
        obtain rfl := e30.symm
        refine g_goto hF (tgt := 37) (by decide +kernel : decode cX4_computed 33 = .ok (.goto 4, 3)) (by decide) ?_
        refine g_ireturn hF hQ (by decide +kernel : decode cX4_computed 37 = .ok (.ireturn, 1)) ?_
        exact ⟨by unfold computeV; first | (rw [if_pos (by omega), if_pos (by omega)]; done) | (rw [if_pos (by omega), if_neg (by omega)]; done) | (rw [if_neg (by omega), if_pos (by omega), if_pos (by omega)]; done) | (rw [if_neg (by omega), if_pos (by omega), if_neg (by omega)]; done) | (rw [if_neg (by omega), if_neg (by omega), if_pos (by omega), if_pos (by omega)]; done) | (rw [if_neg (by omega), if_neg (by omega), if_pos (by omega), if_neg (by omega)]; done) | (rw [if_neg (by omega), if_neg (by omega), if_neg (by omega)]; done) | (rw [if_neg (show ¬ h = 105 by omega), if_neg (show ¬ h = 100 by omega), if_pos (show h = 102 by omega), if_pos (show a < 0 by omega)]; rfl), rfl⟩
  refine g_iload_n hF (by decide +kernel : decode cX4_computed 0 = .ok (.iload_n 0, 1)) rfl ?_
  refine g_bipush hF (by decide +kernel : decode cX4_computed 1 = .ok (.bipush (-2), 2)) (by decide) ?_
  refine g_icmp_eq hF (tgt := 15) (by decide +kernel : decode cX4_computed 3 = .ok (.if_icmp .eq 12, 3)) (by decide) (by omega) (by omega) (fun c3 => ?_) (fun c3 => ?_)
  · skip
    refine g_iconst hF (by decide +kernel : decode cX4_computed 15 = .ok (.iconst 0, 1)) ?_
    refine g_istore_n hF (by decide +kernel : decode cX4_computed 16 = .ok (.istore_n 3, 1)) (by decide) ?_
    exact j17 _ (by first | exact Or.inl ⟨rfl, by omega⟩ | exact Or.inr ⟨rfl, by omega⟩)
  · skip
    refine g_iload_n hF (by decide +kernel : decode cX4_computed 6 = .ok (.iload_n 0, 1)) rfl ?_
    refine g_iconst hF (by decide +kernel : decode cX4_computed 7 = .ok (.iconst (-1), 1)) ?_
    refine g_icmp_eq hF (tgt := 15) (by decide +kernel : decode cX4_computed 8 = .ok (.if_icmp .eq 7, 3)) (by decide) (by omega) (by omega) (fun c8 => ?_) (fun c8 => ?_)
    · skip
      refine g_iconst hF (by decide +kernel : decode cX4_computed 15 = .ok (.iconst 0, 1)) ?_
      refine g_istore_n hF (by decide +kernel : decode cX4_computed 16 = .ok (.istore_n 3, 1)) (by decide) ?_
      exact j17 _ (by first | exact Or.inl ⟨rfl, by omega⟩ | exact Or.inr ⟨rfl, by omega⟩)
    · skip
      refine g_iconst hF (by decide +kernel : decode cX4_computed 11 = .ok (.iconst 1, 1)) ?_
      refine g_goto hF (tgt := 16) (by decide +kernel : decode cX4_computed 12 = .ok (.goto 4, 3)) (by decide) ?_
      refine g_istore_n hF (by decide +kernel : decode cX4_computed 16 = .ok (.istore_n 3, 1)) (by decide) ?_
      exact j17 _ (by first | exact Or.inl ⟨rfl, by omega⟩ | exact Or.inr ⟨rfl, by omega⟩)
set_option maxHeartbeats 4000000 in
set_option maxRecDepth 100000 in
theorem c_X4_addToTally (X : jX) (hX : jxok X) (t : Nat) (ht : t < 19) (c : Int) (m : jM) (hm : rowok (m t)) : Con X yX4_addToTally cX4_addToTally 5 none 3 [vR 2 38, vR 1 t, vI c] m (fun o m' => o = none ∧ ∃ G : Int → Int, m' = mrow m 50 G ∧ ∀ z : Int, 0 ≤ z → z < 257 → G z = m 50 z + c * mult (m t) (z - 1)) := by
  refine Con.of hX (by decide) (Nat.le_of_ble_eq_true rfl) (fun F hF hQ => ?_)
  refine g_iconst hF (by decide +kernel : decode cX4_addToTally 0 = .ok (.iconst (-1), 1)) ?_
  refine g_istore_n hF (by decide +kernel : decode cX4_addToTally 1 = .ok (.istore_n 3, 1)) (by decide) ?_
  have loop : ∀ (n i : Nat) (k : Int) (G : Int → Int) (mm : jM), i ≤ 257 → 258 ≤ i + n → k = i - 1 → mm = mrow m 50 G → (∀ z : Int, 0 ≤ z → z < 257 → G z = m 50 z + c * sumN (fun j => if m t j = z - 1 then 1 else 0) i) → jG F X mm 2 [(0, vR 2 38), (1, vR 1 t), (2, vI c), (3, vI k)] [] := by
    intro n
    induction n with
    | zero => intro i k G mm h1 h2; exact absurd h2 (by omega)
    | succ n ih =>
      intro i k G mm h1 h2 hk hmm hG
      have et : mm t = m t := by rw [hmm]; exact mrow_ne (by omega)
      have e50 : mm 50 = G := by rw [hmm, mrow_at]
      refine g_iload_n hF (by decide +kernel : decode cX4_addToTally 2 = .ok (.iload_n 3, 1)) rfl ?_
      refine g_sipush hF (by decide +kernel : decode cX4_addToTally 3 = .ok (.sipush 255, 3)) (by decide) ?_
      refine g_icmp_gt hF (tgt := 43) (by decide +kernel : decode cX4_addToTally 6 = .ok (.if_icmp .gt 37, 3)) (by decide) (by omega) (by omega) (fun c6 => ?_) (fun c6 => ?_)
      · skip
        refine g_return hF hQ (by decide +kernel : decode cX4_addToTally 43 = .ok (.return_, 1)) ?_
        exact ⟨rfl, G, hmm, fun z h8 h9 => by rw [hG z h8 h9, show i = 257 by omega]; rfl⟩
      · skip
        have q8 : tat (mm t) k = m t i := by rw [et]; exact tat_i hk (by omega) (by omega)
        have b8 := hm i (by omega) (by omega)
        refine g_aload_n hF (by decide +kernel : decode cX4_addToTally 9 = .ok (.aload_n 1, 1)) rfl ?_
        refine g_iload_n hF (by decide +kernel : decode cX4_addToTally 10 = .ok (.iload_n 3, 1)) rfl ?_
        refine g_callV hF lkX4_62 (c_X2_at X hX _ ht _ (by omega) _) (by decide +kernel : decode cX4_addToTally 11 = .ok (.invokevirtual 62, 3)) (by decide) rfl rfl rfl rfl ht (Nat.le_of_ble_eq_true rfl) (fun v11 m11 h11 => ?_)
        obtain ⟨rfl, e11⟩ := h11
        obtain rfl := e11.symm
        refine g_istore hF (by decide +kernel : decode cX4_addToTally 14 = .ok (.istore 4, 2)) (by decide) ?_
        refine g_iload hF (by decide +kernel : decode cX4_addToTally 16 = .ok (.iload 4, 2)) rfl ?_
        refine g_callS hF lkX4_293 (c_X4_isNumber X hX _ (by omega) _) (by decide +kernel : decode cX4_addToTally 18 = .ok (.invokestatic 293, 3)) (by decide) rfl rfl (Nat.le_of_ble_eq_true rfl) (fun v18 m18 h18 => ?_)
        obtain ⟨rfl, e18⟩ := h18
        obtain rfl := e18.symm
        refine g_if_eq hF (tgt := 37) (by decide +kernel : decode cX4_addToTally 21 = .ok (.ifCond .eq 16, 3)) (by decide) (by omega) (fun c21 => ?_) (fun c21 => ?_)
        · skip
          have q21 := i01_f c21
          refine g_iinc hF (by decide +kernel : decode cX4_addToTally 37 = .ok (.iinc 3 1, 3)) rfl (by decide) ?_
          refine g_goto hF (tgt := 2) (by decide +kernel : decode cX4_addToTally 40 = .ok (.goto (-38), 3)) (by decide) ?_
          refine g_take 4 ?_
          exact ih (i + 1) _ G _ (by omega) (by omega) (by omega) hmm (fun z h8 h9 => by rw [hG z h8 h9, sumN_s, if_neg (by omega)]; simp)
        · skip
          have q21 := i01_t c21
          refine g_aload_n hF (by decide +kernel : decode cX4_addToTally 24 = .ok (.aload_n 0, 1)) rfl ?_
          refine g_getC hF lkX4_47 (by decide +kernel : decode cX4_addToTally 25 = .ok (.getfield 47, 3)) jok38 rfl rfl ?_
          refine g_iload hF (by decide +kernel : decode cX4_addToTally 28 = .ok (.iload 4, 2)) rfl ?_
          refine g_iconst hF (by decide +kernel : decode cX4_addToTally 30 = .ok (.iconst 1, 1)) ?_
          refine g_iadd hF (by decide +kernel : decode cX4_addToTally 31 = .ok (.iadd, 1)) ?_
          refine g_dup2 hF (by decide +kernel : decode cX4_addToTally 32 = .ok (.dup2, 1)) rfl rfl ?_
          refine g_ldC hF (n := 257) (by decide +kernel : decode cX4_addToTally 33 = .ok (.iaload, 1)) jrr50 rfl (by omega) ?_
          refine g_iload_n hF (by decide +kernel : decode cX4_addToTally 34 = .ok (.iload_n 2, 1)) rfl ?_
          refine g_iadd hF (by decide +kernel : decode cX4_addToTally 35 = .ok (.iadd, 1)) ?_
          refine g_stC hF (n := 257) (by decide +kernel : decode cX4_addToTally 36 = .ok (.iastore, 1)) jrr50 rfl (by omega) ?_
          refine g_iinc hF (by decide +kernel : decode cX4_addToTally 37 = .ok (.iinc 3 1, 3)) rfl (by decide) ?_
          refine g_goto hF (tgt := 2) (by decide +kernel : decode cX4_addToTally 40 = .ok (.goto (-38), 3)) (by decide) ?_
          refine g_take 4 ?_
          exact ih (i + 1) _ _ _ (by omega) (by omega) (by omega) (by rw [mset_row, hmm, mrow_mrow]) (fun z h8 h9 => by
            show (if z = tat (mrow m 50 G t) k + 1 then mrow m 50 G 50 (tat (mrow m 50 G t) k + 1) + c else mrow m 50 G 50 z) = _
            rw [← hmm, e50, q8, sumN_s]
            by_cases e : z = m t i + 1
            · rw [if_pos e, if_pos (by omega), ← e, hG z h8 h9, Int.mul_add]; omega
            · rw [if_neg e, if_neg (by omega), hG z h8 h9]; simp)
  exact loop 258 0 (-1) (m 50) _ (by omega) (by omega) (by omega) (by rw [mrow_self]) (fun z _ _ => by rw [sumN_0]; simp)
set_option maxHeartbeats 4000000 in
set_option maxRecDepth 100000 in
theorem c_X4_unlikeValues (X : jX) (hX : jxok X) (t : Nat) (ht : t < 19) (m : jM) (hm : rowok (m t)) : Con X yX4_unlikeValues cX4_unlikeValues 4 (some .int) 4 [vR 2 38, vR 1 t] m (fun o m' => o = some (vI (kindsV (m t))) ∧ ∃ G : Int → Int, m' = mrow m 50 G) := by
  refine Con.of hX (by decide) (Nat.le_of_ble_eq_true rfl) (fun F hF hQ => ?_)
  refine g_aload_n hF (by decide +kernel : decode cX4_unlikeValues 0 = .ok (.aload_n 0, 1)) rfl ?_
  refine g_getC hF lkX4_47 (by decide +kernel : decode cX4_unlikeValues 1 = .ok (.getfield 47, 3)) jok38 rfl rfl ?_
  refine g_iconst hF (by decide +kernel : decode cX4_unlikeValues 4 = .ok (.iconst 0, 1)) ?_
  refine g_callS hF lkX4_296 (c_fillC X hX _ jrr50 rfl _ _) (by decide +kernel : decode cX4_unlikeValues 5 = .ok (.invokestatic 296, 3)) (by decide) rfl rfl (Nat.le_of_ble_eq_true rfl) (fun v5 m5 h5 => ?_)
  obtain ⟨rfl, e5⟩ := h5
  obtain rfl := e5.symm
  have hr5 : rowok (mrow m 50 (fun _ => 0) t) := by rw [mrow_ne (by omega)]; exact hm
  refine g_aload_n hF (by decide +kernel : decode cX4_unlikeValues 8 = .ok (.aload_n 0, 1)) rfl ?_
  refine g_aload_n hF (by decide +kernel : decode cX4_unlikeValues 9 = .ok (.aload_n 1, 1)) rfl ?_
  refine g_iconst hF (by decide +kernel : decode cX4_unlikeValues 10 = .ok (.iconst 1, 1)) ?_
  refine g_callV hF lkX4_302 (c_X4_addToTally X hX _ ht _ _ (by assumption)) (by decide +kernel : decode cX4_unlikeValues 11 = .ok (.invokevirtual 302, 3)) (by decide) rfl rfl rfl rfl jok38 (Nat.le_of_ble_eq_true rfl) (fun v11 m11 h11 => ?_)
  obtain ⟨rfl, G, e11, hG⟩ := h11
  rw [mrow_mrow] at e11
  rw [mrow_at, mrow_ne (by omega)] at hG
  have e50 : m11 50 = G := by rw [e11, mrow_at]
  refine g_iconst hF (by decide +kernel : decode cX4_unlikeValues 14 = .ok (.iconst 0, 1)) ?_
  refine g_istore_n hF (by decide +kernel : decode cX4_unlikeValues 15 = .ok (.istore_n 2, 1)) (by decide) ?_
  refine g_iconst hF (by decide +kernel : decode cX4_unlikeValues 16 = .ok (.iconst 0, 1)) ?_
  refine g_istore_n hF (by decide +kernel : decode cX4_unlikeValues 17 = .ok (.istore_n 3, 1)) (by decide) ?_
  have loop : ∀ (n i : Nat) (a : Int), i ≤ 257 → 258 ≤ i + n → a = sumN (fun z => if 0 < mult (m t) (z - 1) then 1 else 0) i → jG F X m11 18 [(0, vR 2 38), (1, vR 1 t), (2, vI a), (3, vI i)] [] := by
    intro n
    induction n with
    | zero => intro i a h1 h2; exact absurd h2 (by omega)
    | succ n ih =>
      intro i a h1 h2 ha
      refine g_iload_n hF (by decide +kernel : decode cX4_unlikeValues 18 = .ok (.iload_n 3, 1)) rfl ?_
      refine g_sipush hF (by decide +kernel : decode cX4_unlikeValues 19 = .ok (.sipush 257, 3)) (by decide) ?_
      refine g_icmp_ge hF (tgt := 48) (by decide +kernel : decode cX4_unlikeValues 22 = .ok (.if_icmp .ge 26, 3)) (by decide) (by omega) (by omega) (fun c22 => ?_) (fun c22 => ?_)
      · skip
        refine g_iload_n hF (by decide +kernel : decode cX4_unlikeValues 48 = .ok (.iload_n 2, 1)) rfl ?_
        refine g_ireturn hF hQ (by decide +kernel : decode cX4_unlikeValues 49 = .ok (.ireturn, 1)) ?_
        exact ⟨by rw [ha, show i = 257 by omega]; rfl, G, e11⟩
      · skip
        refine g_iload_n hF (by decide +kernel : decode cX4_unlikeValues 25 = .ok (.iload_n 2, 1)) rfl ?_
        refine g_aload_n hF (by decide +kernel : decode cX4_unlikeValues 26 = .ok (.aload_n 0, 1)) rfl ?_
        refine g_getC hF lkX4_47 (by decide +kernel : decode cX4_unlikeValues 27 = .ok (.getfield 47, 3)) jok38 rfl rfl ?_
        refine g_iload_n hF (by decide +kernel : decode cX4_unlikeValues 30 = .ok (.iload_n 3, 1)) rfl ?_
        refine g_ldC hF (n := 257) (by decide +kernel : decode cX4_unlikeValues 31 = .ok (.iaload, 1)) jrr50 rfl (by omega) ?_
        have g1 : m11 50 i = mult (m t) (i - 1) := by rw [e50, hG i (by omega) (by omega)]; simp
        have g2 : 0 ≤ mult (m t) (i - 1) ∧ mult (m t) (i - 1) ≤ 257 := mult_b (m t) (i - 1) 257
        refine g_if_le hF (tgt := 39) (by decide +kernel : decode cX4_unlikeValues 32 = .ok (.ifCond .le 7, 3)) (by decide) (by omega) (fun c32 => ?_) (fun c32 => ?_)
        · skip
          refine g_iconst hF (by decide +kernel : decode cX4_unlikeValues 39 = .ok (.iconst 0, 1)) ?_
          refine g_iadd hF (by decide +kernel : decode cX4_unlikeValues 40 = .ok (.iadd, 1)) ?_
          refine g_istore_n hF (by decide +kernel : decode cX4_unlikeValues 41 = .ok (.istore_n 2, 1)) (by decide) ?_
          refine g_iinc hF (by decide +kernel : decode cX4_unlikeValues 42 = .ok (.iinc 3 1, 3)) rfl (by decide) ?_
          refine g_goto hF (tgt := 18) (by decide +kernel : decode cX4_unlikeValues 45 = .ok (.goto (-27), 3)) (by decide) ?_
          exact ih (i + 1) _ (by omega) (by omega) (by rw [ha, sumN_s]; first | rw [if_pos (by omega)] | rw [if_neg (by omega)])
        · skip
          refine g_iconst hF (by decide +kernel : decode cX4_unlikeValues 35 = .ok (.iconst 1, 1)) ?_
          refine g_goto hF (tgt := 40) (by decide +kernel : decode cX4_unlikeValues 36 = .ok (.goto 4, 3)) (by decide) ?_
          refine g_iadd hF (by decide +kernel : decode cX4_unlikeValues 40 = .ok (.iadd, 1)) ?_
          refine g_istore_n hF (by decide +kernel : decode cX4_unlikeValues 41 = .ok (.istore_n 2, 1)) (by decide) ?_
          refine g_iinc hF (by decide +kernel : decode cX4_unlikeValues 42 = .ok (.iinc 3 1, 3)) rfl (by decide) ?_
          refine g_goto hF (tgt := 18) (by decide +kernel : decode cX4_unlikeValues 45 = .ok (.goto (-27), 3)) (by decide) ?_
          exact ih (i + 1) _ (by omega) (by omega) (by rw [ha, sumN_s]; first | rw [if_pos (by omega)] | rw [if_neg (by omega)])
  exact loop 258 0 0 (by omega) (by omega) (sumN_0 _).symm
set_option maxHeartbeats 4000000 in
set_option maxRecDepth 100000 in
theorem c_X4_matchValues (X : jX) (hX : jxok X) (t : Nat) (ht : t < 19) (u : Nat) (hu : u < 19) (m : jM) (hm : rowok (m t)) (hmu : rowok (m u)) : Con X yX4_matchValues cX4_matchValues 4 (some .boolean) 4 [vR 2 38, vR 1 t, vR 1 u] m (fun o m' => o = some (vI (bI (eqV (m t) (m u)))) ∧ ∃ G : Int → Int, m' = mrow m 50 G) := by
  refine Con.of hX (by decide) (Nat.le_of_ble_eq_true rfl) (fun F hF hQ => ?_)
  refine g_aload_n hF (by decide +kernel : decode cX4_matchValues 0 = .ok (.aload_n 0, 1)) rfl ?_
  refine g_getC hF lkX4_47 (by decide +kernel : decode cX4_matchValues 1 = .ok (.getfield 47, 3)) jok38 rfl rfl ?_
  refine g_iconst hF (by decide +kernel : decode cX4_matchValues 4 = .ok (.iconst 0, 1)) ?_
  refine g_callS hF lkX4_296 (c_fillC X hX _ jrr50 rfl _ _) (by decide +kernel : decode cX4_matchValues 5 = .ok (.invokestatic 296, 3)) (by decide) rfl rfl (Nat.le_of_ble_eq_true rfl) (fun v5 m5 h5 => ?_)
  obtain ⟨rfl, e5⟩ := h5
  obtain rfl := e5.symm
  have hr5 : rowok (mrow m 50 (fun _ => 0) t) := by rw [mrow_ne (by omega)]; exact hm
  refine g_aload_n hF (by decide +kernel : decode cX4_matchValues 8 = .ok (.aload_n 0, 1)) rfl ?_
  refine g_aload_n hF (by decide +kernel : decode cX4_matchValues 9 = .ok (.aload_n 1, 1)) rfl ?_
  refine g_iconst hF (by decide +kernel : decode cX4_matchValues 10 = .ok (.iconst 1, 1)) ?_
  refine g_callV hF lkX4_302 (c_X4_addToTally X hX _ ht _ _ (by assumption)) (by decide +kernel : decode cX4_matchValues 11 = .ok (.invokevirtual 302, 3)) (by decide) rfl rfl rfl rfl jok38 (Nat.le_of_ble_eq_true rfl) (fun v11 m11 h11 => ?_)
  obtain ⟨rfl, G, e11, hG⟩ := h11
  rw [mrow_mrow] at e11
  rw [mrow_at, mrow_ne (by omega)] at hG
  have e50 : m11 50 = G := by rw [e11, mrow_at]
  have hr6 : rowok (m11 u) := by rw [e11, mrow_ne (by omega)]; exact hmu
  refine g_aload_n hF (by decide +kernel : decode cX4_matchValues 14 = .ok (.aload_n 0, 1)) rfl ?_
  refine g_aload_n hF (by decide +kernel : decode cX4_matchValues 15 = .ok (.aload_n 2, 1)) rfl ?_
  refine g_iconst hF (by decide +kernel : decode cX4_matchValues 16 = .ok (.iconst (-1), 1)) ?_
  refine g_callV hF lkX4_302 (c_X4_addToTally X hX _ hu _ _ (by assumption)) (by decide +kernel : decode cX4_matchValues 17 = .ok (.invokevirtual 302, 3)) (by decide) rfl rfl rfl rfl jok38 (Nat.le_of_ble_eq_true rfl) (fun v17 m17 h17 => ?_)
  obtain ⟨rfl, G2, e17, hG2⟩ := h17
  rw [e50, e11, mrow_ne (show u ≠ 50 by omega)] at hG2
  rw [e11, mrow_mrow] at e17
  have f50 : m17 50 = G2 := by rw [e17, mrow_at]
  refine g_iconst hF (by decide +kernel : decode cX4_matchValues 20 = .ok (.iconst 0, 1)) ?_
  refine g_istore_n hF (by decide +kernel : decode cX4_matchValues 21 = .ok (.istore_n 3, 1)) (by decide) ?_
  have loop : ∀ (n i : Nat), i ≤ 257 → 258 ≤ i + n → (∀ z : Int, 0 ≤ z → z < i → mult (m t) (z - 1) = mult (m u) (z - 1)) → jG F X m17 22 [(0, vR 2 38), (1, vR 1 t), (2, vR 1 u), (3, vI i)] [] := by
    intro n
    induction n with
    | zero => intro i h1 h2; exact absurd h2 (by omega)
    | succ n ih =>
      intro i h1 h2 hi
      refine g_iload_n hF (by decide +kernel : decode cX4_matchValues 22 = .ok (.iload_n 3, 1)) rfl ?_
      refine g_sipush hF (by decide +kernel : decode cX4_matchValues 23 = .ok (.sipush 257, 3)) (by decide) ?_
      refine g_icmp_ge hF (tgt := 46) (by decide +kernel : decode cX4_matchValues 26 = .ok (.if_icmp .ge 20, 3)) (by decide) (by omega) (by omega) (fun c26 => ?_) (fun c26 => ?_)
      · skip
        refine g_iconst hF (by decide +kernel : decode cX4_matchValues 46 = .ok (.iconst 1, 1)) ?_
        refine g_zreturn hF hQ (by decide +kernel : decode cX4_matchValues 47 = .ok (.ireturn, 1)) (by first | exact Or.inl rfl | exact Or.inr rfl | omega) ?_
        exact ⟨by rw [bI_t (show eqV (m t) (m u) from fun z h8 h9 => hi z h8 (by omega))], G2, e17⟩
      · skip
        refine g_aload_n hF (by decide +kernel : decode cX4_matchValues 29 = .ok (.aload_n 0, 1)) rfl ?_
        refine g_getC hF lkX4_47 (by decide +kernel : decode cX4_matchValues 30 = .ok (.getfield 47, 3)) jok38 rfl rfl ?_
        refine g_iload_n hF (by decide +kernel : decode cX4_matchValues 33 = .ok (.iload_n 3, 1)) rfl ?_
        refine g_ldC hF (n := 257) (by decide +kernel : decode cX4_matchValues 34 = .ok (.iaload, 1)) jrr50 rfl (by omega) ?_
        have g1 : m17 50 i = mult (m t) (i - 1) - mult (m u) (i - 1) := by rw [f50, hG2 i (by omega) (by omega), hG i (by omega) (by omega)]; simp; omega
        have g2 : 0 ≤ mult (m t) (i - 1) ∧ mult (m t) (i - 1) ≤ 257 := mult_b (m t) (i - 1) 257
        have g3 : 0 ≤ mult (m u) (i - 1) ∧ mult (m u) (i - 1) ≤ 257 := mult_b (m u) (i - 1) 257
        refine g_if_eq hF (tgt := 40) (by decide +kernel : decode cX4_matchValues 35 = .ok (.ifCond .eq 5, 3)) (by decide) (by omega) (fun c35 => ?_) (fun c35 => ?_)
        · skip
          refine g_iinc hF (by decide +kernel : decode cX4_matchValues 40 = .ok (.iinc 3 1, 3)) rfl (by decide) ?_
          refine g_goto hF (tgt := 22) (by decide +kernel : decode cX4_matchValues 43 = .ok (.goto (-21), 3)) (by decide) ?_
          exact ih (i + 1) (by omega) (by omega) (fun z h8 h9 => by
            by_cases e : z = i
            · rw [e]; omega
            · exact hi z h8 (by omega))
        · skip
          refine g_iconst hF (by decide +kernel : decode cX4_matchValues 38 = .ok (.iconst 0, 1)) ?_
          refine g_zreturn hF hQ (by decide +kernel : decode cX4_matchValues 39 = .ok (.ireturn, 1)) (by first | exact Or.inl rfl | exact Or.inr rfl | omega) ?_
          exact ⟨by rw [bI_f (fun q => by have := q i (by omega) (by omega); omega)], G2, e17⟩
  exact loop 258 0 (by omega) (by omega) (fun z h8 h9 => absurd h9 (by omega))
set_option maxHeartbeats 4000000 in
set_option maxRecDepth 100000 in
theorem c_X4_canTurn (X : jX) (hX : jxok X) (t : Nat) (ht : t < 19) (m : jM) (hm : tok m t) : Con X yX4_canTurn cX4_canTurn 2 (some .boolean) 5 [vR 2 38, vR 1 t] m (fun o m' => o = some (vI (if kindsV (m t) = cnt (m t) then 1 else 0)) ∧ ∃ G : Int → Int, m' = mrow m 50 G) := by
  refine Con.of hX (by decide) (Nat.le_of_ble_eq_true rfl) (fun F hF hQ => ?_)
  have hm1 := hm.1
  have k1 := kindsV_b (m t)
  have k2 := cnt_b (m t)
  refine g_aload_n hF (by decide +kernel : decode cX4_canTurn 0 = .ok (.aload_n 0, 1)) rfl ?_
  refine g_aload_n hF (by decide +kernel : decode cX4_canTurn 1 = .ok (.aload_n 1, 1)) rfl ?_
  refine g_callV hF lkX4_99 (c_X4_unlikeValues X hX _ ht _ (by assumption)) (by decide +kernel : decode cX4_canTurn 2 = .ok (.invokevirtual 99, 3)) (by decide) rfl rfl rfl rfl jok38 (Nat.le_of_ble_eq_true rfl) (fun v2 m2 h2 => ?_)
  obtain ⟨rfl, G2, e2⟩ := h2
  obtain rfl := e2.symm
  refine g_aload_n hF (by decide +kernel : decode cX4_canTurn 5 = .ok (.aload_n 1, 1)) rfl ?_
  refine g_tcnt hF lkX4_85 (by decide +kernel : decode cX4_canTurn 6 = .ok (.getfield 85, 3)) ht ?_
  have g1 : mrow m 50 G2 (19 + t) 0 = cnt (m t) := by rw [mrow_ne (by omega)]; exact hm.2
  refine g_icmp_ne hF (tgt := 16) (by decide +kernel : decode cX4_canTurn 9 = .ok (.if_icmp .ne 7, 3)) (by decide) (by omega) (by omega) (fun c9 => ?_) (fun c9 => ?_)
  · skip
    refine g_iconst hF (by decide +kernel : decode cX4_canTurn 16 = .ok (.iconst 0, 1)) ?_
    refine g_zreturn hF hQ (by decide +kernel : decode cX4_canTurn 17 = .ok (.ireturn, 1)) (by first | exact Or.inl rfl | exact Or.inr rfl | omega) ?_
    exact ⟨by rw [if_neg (by omega)], _, rfl⟩
  · skip
    refine g_iconst hF (by decide +kernel : decode cX4_canTurn 12 = .ok (.iconst 1, 1)) ?_
    refine g_goto hF (tgt := 17) (by decide +kernel : decode cX4_canTurn 13 = .ok (.goto 4, 3)) (by decide) ?_
    refine g_zreturn hF hQ (by decide +kernel : decode cX4_canTurn 17 = .ok (.ireturn, 1)) (by first | exact Or.inl rfl | exact Or.inr rfl | omega) ?_
    exact ⟨by rw [if_pos (by omega)], _, rfl⟩
set_option maxHeartbeats 4000000 in
set_option maxRecDepth 100000 in
theorem c_X4_checkTurns (X : jX) (hX : jxok X) (t : Nat) (ht : t < 19) (m : jM) (hm : tok m t) (h : kindsV (m t) = cnt (m t)) : Con X yX4_checkTurns cX4_checkTurns 2 none 6 [vR 2 38, vR 1 t] m (fun o m' => o = none ∧ ∃ G : Int → Int, m' = mrow m 50 G) := by
  refine Con.of hX (by decide) (Nat.le_of_ble_eq_true rfl) (fun F hF hQ => ?_)
  refine g_aload_n hF (by decide +kernel : decode cX4_checkTurns 0 = .ok (.aload_n 0, 1)) rfl ?_
  refine g_aload_n hF (by decide +kernel : decode cX4_checkTurns 1 = .ok (.aload_n 1, 1)) rfl ?_
  refine g_callV hF lkX4_267 (c_X4_canTurn X hX _ ht _ (by assumption)) (by decide +kernel : decode cX4_checkTurns 2 = .ok (.invokevirtual 267, 3)) (by decide) rfl rfl rfl rfl jok38 (Nat.le_of_ble_eq_true rfl) (fun v2 m2 h2 => ?_)
  obtain ⟨rfl, G2, e2⟩ := h2
  obtain rfl := e2.symm
  refine g_if_ne hF (tgt := 19) (by decide +kernel : decode cX4_checkTurns 5 = .ok (.ifCond .ne 14, 3)) (by decide) (by split <;> omega) (fun c5 => ?_) (fun c5 => ?_)
  · skip
    refine g_return hF hQ (by decide +kernel : decode cX4_checkTurns 19 = .ok (.return_, 1)) ?_
    exact ⟨rfl, _, rfl⟩
  · skip
    exact absurd c5 (by rw [if_pos h]; decide)

set_option maxHeartbeats 4000000 in
set_option maxRecDepth 100000 in
theorem ya_X5_merge (X : jX) (hX : jxok X) (s : Nat) (hs : s < 8) (k v : Int) (hk : num k) (hv : 0 ≤ v ∧ v ≤ 255) (m : jM) (hI : MI m) : Con X yX5_merge cX5_merge 8 (some .int) 8 [vR 2 51, vI s, vI k, vI v, vI 43] m (fun o m' => o = some (vI (mergeV (tat (mR m s) k) v 43)) ∧ MW (mset m 51 2 0) s (fmark (mR m s) k (mergeV (tat (mR m s) k) v 43)) m') := by
  refine Con.of hX (by decide) (Nat.le_of_ble_eq_true rfl) (fun F hF hQ => ?_)
  have hr := hI.1 s hs
  have hk2 : -1 ≤ k ∧ k ≤ 255 := hk
  refine g_iload hF (by decide +kernel : decode cX5_merge 0 = .ok (.iload 4, 2)) rfl ?_
  refine g_bipush hF (by decide +kernel : decode cX5_merge 2 = .ok (.bipush 43, 2)) (by decide) ?_
  refine g_icmp_eq hF (tgt := 21) (by decide +kernel : decode cX5_merge 4 = .ok (.if_icmp .eq 17, 3)) (by decide) (by omega) (by omega) (fun c4 => ?_) (fun c4 => ?_)
  · skip
    refine g_iconst hF (by decide +kernel : decode cX5_merge 21 = .ok (.iconst 1, 1)) ?_
    refine g_goto hF (tgt := 26) (by decide +kernel : decode cX5_merge 22 = .ok (.goto 4, 3)) (by decide) ?_
    refine g_istore hF (by decide +kernel : decode cX5_merge 26 = .ok (.istore 5, 2)) (by decide) ?_
    refine g_aload_n hF (by decide +kernel : decode cX5_merge 28 = .ok (.aload_n 0, 1)) rfl ?_
    refine g_aload_n hF (by decide +kernel : decode cX5_merge 29 = .ok (.aload_n 0, 1)) rfl ?_
    refine g_iload_n hF (by decide +kernel : decode cX5_merge 30 = .ok (.iload_n 1, 1)) rfl ?_
    refine g_iload_n hF (by decide +kernel : decode cX5_merge 31 = .ok (.iload_n 2, 1)) rfl ?_
    refine g_iload_n hF (by decide +kernel : decode cX5_merge 32 = .ok (.iload_n 3, 1)) rfl ?_
    refine g_iconst hF (by decide +kernel : decode cX5_merge 33 = .ok (.iconst 0, 1)) ?_
    refine g_callV hF lkX5_49 (y_X5_no X hX _ (by omega) _ _ _ (by omega) (by omega) (by omega) (by unfold num; omega) _) (by decide +kernel : decode cX5_merge 34 = .ok (.invokevirtual 49, 3)) (by decide) rfl rfl rfl rfl jok51 (Nat.le_of_ble_eq_true rfl) (fun v34 m34 h34 => ?_)
    obtain ⟨rfl, e34⟩ := h34
    obtain rfl := e34.symm
    refine g_if_le hF (tgt := 51) (by decide +kernel : decode cX5_merge 37 = .ok (.ifCond .le 14, 3)) (by decide) (by omega) (fun c37 => ?_) (fun c37 => ?_)
    · skip
      refine g_iload hF (by decide +kernel : decode cX5_merge 51 = .ok (.iload 5, 2)) rfl ?_
      refine g_if_eq hF (tgt := 60) (by decide +kernel : decode cX5_merge 53 = .ok (.ifCond .eq 7, 3)) (by decide) (by omega) (fun c53 => ?_) (fun c53 => ?_)
      · skip
        exact absurd c53 (by decide)
      · skip
        refine g_iload_n hF (by decide +kernel : decode cX5_merge 56 = .ok (.iload_n 3, 1)) rfl ?_
        refine g_if_ge hF (tgt := 64) (by decide +kernel : decode cX5_merge 57 = .ok (.ifCond .ge 7, 3)) (by decide) (by omega) (fun c57 => ?_) (fun c57 => ?_)
        · skip
          refine g_iconst hF (by decide +kernel : decode cX5_merge 64 = .ok (.iconst 0, 1)) ?_
          refine g_callV hF lkX5_53 (y_X5_fails X hX _) (by decide +kernel : decode cX5_merge 65 = .ok (.invokevirtual 53, 3)) (by decide) rfl rfl rfl rfl jok51 (Nat.le_of_ble_eq_true rfl) (fun v65 m65 h65 => ?_)
          obtain ⟨rfl, e65⟩ := h65
          have S0 : MSm m m65 := by rw [e65]; exact MSm_code m (Or.inl rfl) 0
          have I0 := MI_S hI S0
          have z0 : m65 51 2 = 0 := by rw [e65, mset_at]
          have r0 : ∀ t : Nat, mR m65 t = mR m t := fun t => mR_52 (S0.1 52 (by decide) (by decide) (by decide)) t
          refine g_if_eq hF (tgt := 73) (by decide +kernel : decode cX5_merge 68 = .ok (.ifCond .eq 5, 3)) (by decide) (by omega) (fun c68 => ?_) (fun c68 => ?_)
          · skip
            refine g_aload_n hF (by decide +kernel : decode cX5_merge 73 = .ok (.aload_n 0, 1)) rfl ?_
            refine g_iload_n hF (by decide +kernel : decode cX5_merge 74 = .ok (.iload_n 1, 1)) rfl ?_
            refine g_callV hF lkX5_56 (c_X5_keeps X hX _ (by omega) _ (by assumption)) (by decide +kernel : decode cX5_merge 75 = .ok (.invokevirtual 56, 3)) (by decide) rfl rfl rfl rfl jok51 (Nat.le_of_ble_eq_true rfl) (fun v75 m75 h75 => ?_)
            obtain ⟨rfl, k75⟩ := h75
            have I1 := MI_keep hs I0 k75
            have rk : mR m75 s = mR m s := by rw [mR_52 (m_52 k75), r0]
            refine g_aload_n hF (by decide +kernel : decode cX5_merge 78 = .ok (.aload_n 0, 1)) rfl ?_
            refine g_iload_n hF (by decide +kernel : decode cX5_merge 79 = .ok (.iload_n 1, 1)) rfl ?_
            refine g_iload_n hF (by decide +kernel : decode cX5_merge 80 = .ok (.iload_n 2, 1)) rfl ?_
            refine g_callV hF lkX5_60 (c_X5_at X hX _ (by omega) _ (show num _ from ⟨by omega, by omega⟩) _) (by decide +kernel : decode cX5_merge 81 = .ok (.invokevirtual 60, 3)) (by decide) rfl rfl rfl rfl jok51 (Nat.le_of_ble_eq_true rfl) (fun v81 m81 h81 => ?_)
            obtain ⟨rfl, e81⟩ := h81
            obtain rfl := e81.symm
            rw [show mR m75 s (k + 1) = tat (mR m s) k by rw [rk, tat_in hk2]]
            have hb := tat_b hr k
            have j137 : ∀ (x a : Int), x = mergeV (tat (mR m s) k) v 43 → jG F X m75 137 [(0, vR 2 51), (1, vI s), (2, vI k), (3, vI v), (4, vI 43), (5, vI 1), (6, vI a)] [vI x] := by
              intro x a hx
              refine g_istore hF (by decide +kernel : decode cX5_merge 137 = .ok (.istore 7, 2)) (by decide) ?_
              refine g_aload_n hF (by decide +kernel : decode cX5_merge 139 = .ok (.aload_n 0, 1)) rfl ?_
              refine g_iload_n hF (by decide +kernel : decode cX5_merge 140 = .ok (.iload_n 1, 1)) rfl ?_
              refine g_iload_n hF (by decide +kernel : decode cX5_merge 141 = .ok (.iload_n 2, 1)) rfl ?_
              refine g_iload hF (by decide +kernel : decode cX5_merge 142 = .ok (.iload 7, 2)) rfl ?_
              refine g_callV hF lkX5_64 (c_X5_sets X hX _ (by omega) _ _ (show num _ from ⟨by omega, by omega⟩) _) (by decide +kernel : decode cX5_merge 144 = .ok (.invokevirtual 64, 3)) (by decide) rfl rfl rfl rfl jok51 (Nat.le_of_ble_eq_true rfl) (fun v144 m144 h144 => ?_)
              obtain ⟨rfl, e144⟩ := h144
              have cw : MW m65 s (fmark (mR m s) k x) m144 := by rw [← rk]; exact MW_of k75 e144
              refine g_iload hF (by decide +kernel : decode cX5_merge 147 = .ok (.iload 7, 2)) rfl ?_
              refine g_ireturn hF hQ (by decide +kernel : decode cX5_merge 149 = .ok (.ireturn, 1)) ?_
              exact ⟨by rw [hx], by rw [← e65, ← hx]; exact cw⟩
            refine g_istore hF (by decide +kernel : decode cX5_merge 84 = .ok (.istore 6, 2)) (by decide) ?_
            refine g_iload hF (by decide +kernel : decode cX5_merge 86 = .ok (.iload 6, 2)) rfl ?_
            refine g_if_ge hF (tgt := 95) (by decide +kernel : decode cX5_merge 88 = .ok (.ifCond .ge 7, 3)) (by decide) (by omega) (fun c88 => ?_) (fun c88 => ?_)
            · skip
              refine g_iload hF (by decide +kernel : decode cX5_merge 95 = .ok (.iload 4, 2)) rfl ?_
              refine g_bipush hF (by decide +kernel : decode cX5_merge 97 = .ok (.bipush 43, 2)) (by decide) ?_
              refine g_icmp_ne hF (tgt := 113) (by decide +kernel : decode cX5_merge 99 = .ok (.if_icmp .ne 14, 3)) (by decide) (by omega) (by omega) (fun c99 => ?_) (fun c99 => ?_)
              · skip
                exact absurd c99 (by decide)
              · skip
                refine g_iload hF (by decide +kernel : decode cX5_merge 102 = .ok (.iload 6, 2)) rfl ?_
                refine g_iload_n hF (by decide +kernel : decode cX5_merge 104 = .ok (.iload_n 3, 1)) rfl ?_
                refine g_iadd hF (by decide +kernel : decode cX5_merge 105 = .ok (.iadd, 1)) ?_
                refine g_sipush hF (by decide +kernel : decode cX5_merge 106 = .ok (.sipush 256, 3)) (by decide) ?_
                refine g_irem hF (by decide +kernel : decode cX5_merge 109 = .ok (.irem, 1)) (by omega) (by omega) ?_
                refine g_goto hF (tgt := 137) (by decide +kernel : decode cX5_merge 110 = .ok (.goto 27, 3)) (by decide) ?_
                exact j137 _ _ (by unfold mergeV; first | (rw [if_pos (by omega)]; done) | (rw [if_neg (by omega), if_pos (by omega)]; exact wr_mod (by omega)) | (rw [if_neg (by omega), if_neg (by omega), if_neg (by omega)]; done) | (rw [if_neg (by omega), if_neg (by omega), if_pos (by omega), if_pos (by omega)]; done) | (rw [if_neg (show ¬ tat (mR m s) k < 0 by omega), if_neg (by decide), if_pos rfl, if_neg (show ¬ tat (mR m s) k < v by omega)]; done) | (rw [if_neg (show ¬ tat (mR m s) k < 0 by omega), if_neg (by decide), if_pos rfl]; split <;> omega))
            · skip
              refine g_iload_n hF (by decide +kernel : decode cX5_merge 91 = .ok (.iload_n 3, 1)) rfl ?_
              refine g_goto hF (tgt := 137) (by decide +kernel : decode cX5_merge 92 = .ok (.goto 45, 3)) (by decide) ?_
              exact j137 _ _ (by unfold mergeV; first | (rw [if_pos (by omega)]; done) | (rw [if_neg (by omega), if_pos (by omega)]; exact wr_mod (by omega)) | (rw [if_neg (by omega), if_neg (by omega), if_neg (by omega)]; done) | (rw [if_neg (by omega), if_neg (by omega), if_pos (by omega), if_pos (by omega)]; done) | (rw [if_neg (show ¬ tat (mR m s) k < 0 by omega), if_neg (by decide), if_pos rfl, if_neg (show ¬ tat (mR m s) k < v by omega)]; done) | (rw [if_neg (show ¬ tat (mR m s) k < 0 by omega), if_neg (by decide), if_pos rfl]; split <;> omega))
          · skip
            exact absurd c68 (by decide)
        · skip
          exact absurd c57 (by omega)
    · skip
      exact absurd c37 (by decide)
  · skip
    exact absurd c4 (by decide)
set_option maxHeartbeats 4000000 in
set_option maxRecDepth 100000 in
theorem yb_X5_merge (X : jX) (hX : jxok X) (s : Nat) (hs : s < 8) (k v : Int) (hk : num k) (hv : 0 ≤ v ∧ v ≤ 255) (m : jM) (hI : MI m) : Con X yX5_merge cX5_merge 8 (some .int) 8 [vR 2 51, vI s, vI k, vI v, vI 62] m (fun o m' => o = some (vI (mergeV (tat (mR m s) k) v 62)) ∧ MW (mset m 51 2 0) s (fmark (mR m s) k (mergeV (tat (mR m s) k) v 62)) m') := by
  refine Con.of hX (by decide) (Nat.le_of_ble_eq_true rfl) (fun F hF hQ => ?_)
  have hr := hI.1 s hs
  have hk2 : -1 ≤ k ∧ k ≤ 255 := hk
  refine g_iload hF (by decide +kernel : decode cX5_merge 0 = .ok (.iload 4, 2)) rfl ?_
  refine g_bipush hF (by decide +kernel : decode cX5_merge 2 = .ok (.bipush 43, 2)) (by decide) ?_
  refine g_icmp_eq hF (tgt := 21) (by decide +kernel : decode cX5_merge 4 = .ok (.if_icmp .eq 17, 3)) (by decide) (by omega) (by omega) (fun c4 => ?_) (fun c4 => ?_)
  · skip
    exact absurd c4 (by decide)
  · skip
    refine g_iload hF (by decide +kernel : decode cX5_merge 7 = .ok (.iload 4, 2)) rfl ?_
    refine g_bipush hF (by decide +kernel : decode cX5_merge 9 = .ok (.bipush 62, 2)) (by decide) ?_
    refine g_icmp_eq hF (tgt := 21) (by decide +kernel : decode cX5_merge 11 = .ok (.if_icmp .eq 10, 3)) (by decide) (by omega) (by omega) (fun c11 => ?_) (fun c11 => ?_)
    · skip
      refine g_iconst hF (by decide +kernel : decode cX5_merge 21 = .ok (.iconst 1, 1)) ?_
      refine g_goto hF (tgt := 26) (by decide +kernel : decode cX5_merge 22 = .ok (.goto 4, 3)) (by decide) ?_
      refine g_istore hF (by decide +kernel : decode cX5_merge 26 = .ok (.istore 5, 2)) (by decide) ?_
      refine g_aload_n hF (by decide +kernel : decode cX5_merge 28 = .ok (.aload_n 0, 1)) rfl ?_
      refine g_aload_n hF (by decide +kernel : decode cX5_merge 29 = .ok (.aload_n 0, 1)) rfl ?_
      refine g_iload_n hF (by decide +kernel : decode cX5_merge 30 = .ok (.iload_n 1, 1)) rfl ?_
      refine g_iload_n hF (by decide +kernel : decode cX5_merge 31 = .ok (.iload_n 2, 1)) rfl ?_
      refine g_iload_n hF (by decide +kernel : decode cX5_merge 32 = .ok (.iload_n 3, 1)) rfl ?_
      refine g_iconst hF (by decide +kernel : decode cX5_merge 33 = .ok (.iconst 0, 1)) ?_
      refine g_callV hF lkX5_49 (y_X5_no X hX _ (by omega) _ _ _ (by omega) (by omega) (by omega) (by unfold num; omega) _) (by decide +kernel : decode cX5_merge 34 = .ok (.invokevirtual 49, 3)) (by decide) rfl rfl rfl rfl jok51 (Nat.le_of_ble_eq_true rfl) (fun v34 m34 h34 => ?_)
      obtain ⟨rfl, e34⟩ := h34
      obtain rfl := e34.symm
      refine g_if_le hF (tgt := 51) (by decide +kernel : decode cX5_merge 37 = .ok (.ifCond .le 14, 3)) (by decide) (by omega) (fun c37 => ?_) (fun c37 => ?_)
      · skip
        refine g_iload hF (by decide +kernel : decode cX5_merge 51 = .ok (.iload 5, 2)) rfl ?_
        refine g_if_eq hF (tgt := 60) (by decide +kernel : decode cX5_merge 53 = .ok (.ifCond .eq 7, 3)) (by decide) (by omega) (fun c53 => ?_) (fun c53 => ?_)
        · skip
          exact absurd c53 (by decide)
        · skip
          refine g_iload_n hF (by decide +kernel : decode cX5_merge 56 = .ok (.iload_n 3, 1)) rfl ?_
          refine g_if_ge hF (tgt := 64) (by decide +kernel : decode cX5_merge 57 = .ok (.ifCond .ge 7, 3)) (by decide) (by omega) (fun c57 => ?_) (fun c57 => ?_)
          · skip
            refine g_iconst hF (by decide +kernel : decode cX5_merge 64 = .ok (.iconst 0, 1)) ?_
            refine g_callV hF lkX5_53 (y_X5_fails X hX _) (by decide +kernel : decode cX5_merge 65 = .ok (.invokevirtual 53, 3)) (by decide) rfl rfl rfl rfl jok51 (Nat.le_of_ble_eq_true rfl) (fun v65 m65 h65 => ?_)
            obtain ⟨rfl, e65⟩ := h65
            have S0 : MSm m m65 := by rw [e65]; exact MSm_code m (Or.inl rfl) 0
            have I0 := MI_S hI S0
            have z0 : m65 51 2 = 0 := by rw [e65, mset_at]
            have r0 : ∀ t : Nat, mR m65 t = mR m t := fun t => mR_52 (S0.1 52 (by decide) (by decide) (by decide)) t
            refine g_if_eq hF (tgt := 73) (by decide +kernel : decode cX5_merge 68 = .ok (.ifCond .eq 5, 3)) (by decide) (by omega) (fun c68 => ?_) (fun c68 => ?_)
            · skip
              refine g_aload_n hF (by decide +kernel : decode cX5_merge 73 = .ok (.aload_n 0, 1)) rfl ?_
              refine g_iload_n hF (by decide +kernel : decode cX5_merge 74 = .ok (.iload_n 1, 1)) rfl ?_
              refine g_callV hF lkX5_56 (c_X5_keeps X hX _ (by omega) _ (by assumption)) (by decide +kernel : decode cX5_merge 75 = .ok (.invokevirtual 56, 3)) (by decide) rfl rfl rfl rfl jok51 (Nat.le_of_ble_eq_true rfl) (fun v75 m75 h75 => ?_)
              obtain ⟨rfl, k75⟩ := h75
              have I1 := MI_keep hs I0 k75
              have rk : mR m75 s = mR m s := by rw [mR_52 (m_52 k75), r0]
              refine g_aload_n hF (by decide +kernel : decode cX5_merge 78 = .ok (.aload_n 0, 1)) rfl ?_
              refine g_iload_n hF (by decide +kernel : decode cX5_merge 79 = .ok (.iload_n 1, 1)) rfl ?_
              refine g_iload_n hF (by decide +kernel : decode cX5_merge 80 = .ok (.iload_n 2, 1)) rfl ?_
              refine g_callV hF lkX5_60 (c_X5_at X hX _ (by omega) _ (show num _ from ⟨by omega, by omega⟩) _) (by decide +kernel : decode cX5_merge 81 = .ok (.invokevirtual 60, 3)) (by decide) rfl rfl rfl rfl jok51 (Nat.le_of_ble_eq_true rfl) (fun v81 m81 h81 => ?_)
              obtain ⟨rfl, e81⟩ := h81
              obtain rfl := e81.symm
              rw [show mR m75 s (k + 1) = tat (mR m s) k by rw [rk, tat_in hk2]]
              have hb := tat_b hr k
              have j137 : ∀ (x a : Int), x = mergeV (tat (mR m s) k) v 62 → jG F X m75 137 [(0, vR 2 51), (1, vI s), (2, vI k), (3, vI v), (4, vI 62), (5, vI 1), (6, vI a)] [vI x] := by
                intro x a hx
                refine g_istore hF (by decide +kernel : decode cX5_merge 137 = .ok (.istore 7, 2)) (by decide) ?_
                refine g_aload_n hF (by decide +kernel : decode cX5_merge 139 = .ok (.aload_n 0, 1)) rfl ?_
                refine g_iload_n hF (by decide +kernel : decode cX5_merge 140 = .ok (.iload_n 1, 1)) rfl ?_
                refine g_iload_n hF (by decide +kernel : decode cX5_merge 141 = .ok (.iload_n 2, 1)) rfl ?_
                refine g_iload hF (by decide +kernel : decode cX5_merge 142 = .ok (.iload 7, 2)) rfl ?_
                refine g_callV hF lkX5_64 (c_X5_sets X hX _ (by omega) _ _ (show num _ from ⟨by omega, by omega⟩) _) (by decide +kernel : decode cX5_merge 144 = .ok (.invokevirtual 64, 3)) (by decide) rfl rfl rfl rfl jok51 (Nat.le_of_ble_eq_true rfl) (fun v144 m144 h144 => ?_)
                obtain ⟨rfl, e144⟩ := h144
                have cw : MW m65 s (fmark (mR m s) k x) m144 := by rw [← rk]; exact MW_of k75 e144
                refine g_iload hF (by decide +kernel : decode cX5_merge 147 = .ok (.iload 7, 2)) rfl ?_
                refine g_ireturn hF hQ (by decide +kernel : decode cX5_merge 149 = .ok (.ireturn, 1)) ?_
                exact ⟨by rw [hx], by rw [← e65, ← hx]; exact cw⟩
              refine g_istore hF (by decide +kernel : decode cX5_merge 84 = .ok (.istore 6, 2)) (by decide) ?_
              refine g_iload hF (by decide +kernel : decode cX5_merge 86 = .ok (.iload 6, 2)) rfl ?_
              refine g_if_ge hF (tgt := 95) (by decide +kernel : decode cX5_merge 88 = .ok (.ifCond .ge 7, 3)) (by decide) (by omega) (fun c88 => ?_) (fun c88 => ?_)
              · skip
                refine g_iload hF (by decide +kernel : decode cX5_merge 95 = .ok (.iload 4, 2)) rfl ?_
                refine g_bipush hF (by decide +kernel : decode cX5_merge 97 = .ok (.bipush 43, 2)) (by decide) ?_
                refine g_icmp_ne hF (tgt := 113) (by decide +kernel : decode cX5_merge 99 = .ok (.if_icmp .ne 14, 3)) (by decide) (by omega) (by omega) (fun c99 => ?_) (fun c99 => ?_)
                · skip
                  refine g_iload hF (by decide +kernel : decode cX5_merge 113 = .ok (.iload 4, 2)) rfl ?_
                  refine g_bipush hF (by decide +kernel : decode cX5_merge 115 = .ok (.bipush 120, 2)) (by decide) ?_
                  refine g_icmp_ne hF (tgt := 125) (by decide +kernel : decode cX5_merge 117 = .ok (.if_icmp .ne 8, 3)) (by decide) (by omega) (by omega) (fun c117 => ?_) (fun c117 => ?_)
                  · skip
                    refine g_iload hF (by decide +kernel : decode cX5_merge 125 = .ok (.iload 6, 2)) rfl ?_
                    refine g_iload_n hF (by decide +kernel : decode cX5_merge 127 = .ok (.iload_n 3, 1)) rfl ?_
                    refine g_icmp_le hF (tgt := 136) (by decide +kernel : decode cX5_merge 128 = .ok (.if_icmp .le 8, 3)) (by decide) (by omega) (by omega) (fun c128 => ?_) (fun c128 => ?_)
                    · skip
                      refine g_iload_n hF (by decide +kernel : decode cX5_merge 136 = .ok (.iload_n 3, 1)) rfl ?_
                      exact j137 _ _ (by unfold mergeV; first | (rw [if_pos (by omega)]; done) | (rw [if_neg (by omega), if_pos (by omega)]; exact wr_mod (by omega)) | (rw [if_neg (by omega), if_neg (by omega), if_neg (by omega)]; done) | (rw [if_neg (by omega), if_neg (by omega), if_pos (by omega), if_pos (by omega)]; done) | (rw [if_neg (show ¬ tat (mR m s) k < 0 by omega), if_neg (by decide), if_pos rfl, if_neg (show ¬ tat (mR m s) k < v by omega)]; done) | (rw [if_neg (show ¬ tat (mR m s) k < 0 by omega), if_neg (by decide), if_pos rfl]; split <;> omega))
                    · skip
                      refine g_iload hF (by decide +kernel : decode cX5_merge 131 = .ok (.iload 6, 2)) rfl ?_
                      refine g_goto hF (tgt := 137) (by decide +kernel : decode cX5_merge 133 = .ok (.goto 4, 3)) (by decide) ?_
                      exact j137 _ _ (by unfold mergeV; first | (rw [if_pos (by omega)]; done) | (rw [if_neg (by omega), if_pos (by omega)]; exact wr_mod (by omega)) | (rw [if_neg (by omega), if_neg (by omega), if_neg (by omega)]; done) | (rw [if_neg (by omega), if_neg (by omega), if_pos (by omega), if_pos (by omega)]; done) | (rw [if_neg (show ¬ tat (mR m s) k < 0 by omega), if_neg (by decide), if_pos rfl, if_neg (show ¬ tat (mR m s) k < v by omega)]; done) | (rw [if_neg (show ¬ tat (mR m s) k < 0 by omega), if_neg (by decide), if_pos rfl]; split <;> omega))
                  · skip
                    exact absurd c117 (by decide)
                · skip
                  exact absurd c99 (by decide)
              · skip
                refine g_iload_n hF (by decide +kernel : decode cX5_merge 91 = .ok (.iload_n 3, 1)) rfl ?_
                refine g_goto hF (tgt := 137) (by decide +kernel : decode cX5_merge 92 = .ok (.goto 45, 3)) (by decide) ?_
                exact j137 _ _ (by unfold mergeV; first | (rw [if_pos (by omega)]; done) | (rw [if_neg (by omega), if_pos (by omega)]; exact wr_mod (by omega)) | (rw [if_neg (by omega), if_neg (by omega), if_neg (by omega)]; done) | (rw [if_neg (by omega), if_neg (by omega), if_pos (by omega), if_pos (by omega)]; done) | (rw [if_neg (show ¬ tat (mR m s) k < 0 by omega), if_neg (by decide), if_pos rfl, if_neg (show ¬ tat (mR m s) k < v by omega)]; done) | (rw [if_neg (show ¬ tat (mR m s) k < 0 by omega), if_neg (by decide), if_pos rfl]; split <;> omega))
            · skip
              exact absurd c68 (by decide)
          · skip
            exact absurd c57 (by omega)
      · skip
        exact absurd c37 (by decide)
    · skip
      exact absurd c11 (by decide)
set_option maxHeartbeats 4000000 in
set_option maxRecDepth 100000 in
theorem yc_X5_merge (X : jX) (hX : jxok X) (s : Nat) (hs : s < 8) (k v : Int) (hk : num k) (hv : 0 ≤ v ∧ v ≤ 255) (m : jM) (hI : MI m) : Con X yX5_merge cX5_merge 8 (some .int) 8 [vR 2 51, vI s, vI k, vI v, vI 120] m (fun o m' => o = some (vI (mergeV (tat (mR m s) k) v 120)) ∧ MW (mset m 51 2 0) s (fmark (mR m s) k (mergeV (tat (mR m s) k) v 120)) m') := by
  refine Con.of hX (by decide) (Nat.le_of_ble_eq_true rfl) (fun F hF hQ => ?_)
  have hr := hI.1 s hs
  have hk2 : -1 ≤ k ∧ k ≤ 255 := hk
  refine g_iload hF (by decide +kernel : decode cX5_merge 0 = .ok (.iload 4, 2)) rfl ?_
  refine g_bipush hF (by decide +kernel : decode cX5_merge 2 = .ok (.bipush 43, 2)) (by decide) ?_
  refine g_icmp_eq hF (tgt := 21) (by decide +kernel : decode cX5_merge 4 = .ok (.if_icmp .eq 17, 3)) (by decide) (by omega) (by omega) (fun c4 => ?_) (fun c4 => ?_)
  · skip
    exact absurd c4 (by decide)
  · skip
    refine g_iload hF (by decide +kernel : decode cX5_merge 7 = .ok (.iload 4, 2)) rfl ?_
    refine g_bipush hF (by decide +kernel : decode cX5_merge 9 = .ok (.bipush 62, 2)) (by decide) ?_
    refine g_icmp_eq hF (tgt := 21) (by decide +kernel : decode cX5_merge 11 = .ok (.if_icmp .eq 10, 3)) (by decide) (by omega) (by omega) (fun c11 => ?_) (fun c11 => ?_)
    · skip
      exact absurd c11 (by decide)
    · skip
      refine g_iload hF (by decide +kernel : decode cX5_merge 14 = .ok (.iload 4, 2)) rfl ?_
      refine g_bipush hF (by decide +kernel : decode cX5_merge 16 = .ok (.bipush 120, 2)) (by decide) ?_
      refine g_icmp_ne hF (tgt := 25) (by decide +kernel : decode cX5_merge 18 = .ok (.if_icmp .ne 7, 3)) (by decide) (by omega) (by omega) (fun c18 => ?_) (fun c18 => ?_)
      · skip
        exact absurd c18 (by decide)
      · skip
        refine g_iconst hF (by decide +kernel : decode cX5_merge 21 = .ok (.iconst 1, 1)) ?_
        refine g_goto hF (tgt := 26) (by decide +kernel : decode cX5_merge 22 = .ok (.goto 4, 3)) (by decide) ?_
        refine g_istore hF (by decide +kernel : decode cX5_merge 26 = .ok (.istore 5, 2)) (by decide) ?_
        refine g_aload_n hF (by decide +kernel : decode cX5_merge 28 = .ok (.aload_n 0, 1)) rfl ?_
        refine g_aload_n hF (by decide +kernel : decode cX5_merge 29 = .ok (.aload_n 0, 1)) rfl ?_
        refine g_iload_n hF (by decide +kernel : decode cX5_merge 30 = .ok (.iload_n 1, 1)) rfl ?_
        refine g_iload_n hF (by decide +kernel : decode cX5_merge 31 = .ok (.iload_n 2, 1)) rfl ?_
        refine g_iload_n hF (by decide +kernel : decode cX5_merge 32 = .ok (.iload_n 3, 1)) rfl ?_
        refine g_iconst hF (by decide +kernel : decode cX5_merge 33 = .ok (.iconst 0, 1)) ?_
        refine g_callV hF lkX5_49 (y_X5_no X hX _ (by omega) _ _ _ (by omega) (by omega) (by omega) (by unfold num; omega) _) (by decide +kernel : decode cX5_merge 34 = .ok (.invokevirtual 49, 3)) (by decide) rfl rfl rfl rfl jok51 (Nat.le_of_ble_eq_true rfl) (fun v34 m34 h34 => ?_)
        obtain ⟨rfl, e34⟩ := h34
        obtain rfl := e34.symm
        refine g_if_le hF (tgt := 51) (by decide +kernel : decode cX5_merge 37 = .ok (.ifCond .le 14, 3)) (by decide) (by omega) (fun c37 => ?_) (fun c37 => ?_)
        · skip
          refine g_iload hF (by decide +kernel : decode cX5_merge 51 = .ok (.iload 5, 2)) rfl ?_
          refine g_if_eq hF (tgt := 60) (by decide +kernel : decode cX5_merge 53 = .ok (.ifCond .eq 7, 3)) (by decide) (by omega) (fun c53 => ?_) (fun c53 => ?_)
          · skip
            exact absurd c53 (by decide)
          · skip
            refine g_iload_n hF (by decide +kernel : decode cX5_merge 56 = .ok (.iload_n 3, 1)) rfl ?_
            refine g_if_ge hF (tgt := 64) (by decide +kernel : decode cX5_merge 57 = .ok (.ifCond .ge 7, 3)) (by decide) (by omega) (fun c57 => ?_) (fun c57 => ?_)
            · skip
              refine g_iconst hF (by decide +kernel : decode cX5_merge 64 = .ok (.iconst 0, 1)) ?_
              refine g_callV hF lkX5_53 (y_X5_fails X hX _) (by decide +kernel : decode cX5_merge 65 = .ok (.invokevirtual 53, 3)) (by decide) rfl rfl rfl rfl jok51 (Nat.le_of_ble_eq_true rfl) (fun v65 m65 h65 => ?_)
              obtain ⟨rfl, e65⟩ := h65
              have S0 : MSm m m65 := by rw [e65]; exact MSm_code m (Or.inl rfl) 0
              have I0 := MI_S hI S0
              have z0 : m65 51 2 = 0 := by rw [e65, mset_at]
              have r0 : ∀ t : Nat, mR m65 t = mR m t := fun t => mR_52 (S0.1 52 (by decide) (by decide) (by decide)) t
              refine g_if_eq hF (tgt := 73) (by decide +kernel : decode cX5_merge 68 = .ok (.ifCond .eq 5, 3)) (by decide) (by omega) (fun c68 => ?_) (fun c68 => ?_)
              · skip
                refine g_aload_n hF (by decide +kernel : decode cX5_merge 73 = .ok (.aload_n 0, 1)) rfl ?_
                refine g_iload_n hF (by decide +kernel : decode cX5_merge 74 = .ok (.iload_n 1, 1)) rfl ?_
                refine g_callV hF lkX5_56 (c_X5_keeps X hX _ (by omega) _ (by assumption)) (by decide +kernel : decode cX5_merge 75 = .ok (.invokevirtual 56, 3)) (by decide) rfl rfl rfl rfl jok51 (Nat.le_of_ble_eq_true rfl) (fun v75 m75 h75 => ?_)
                obtain ⟨rfl, k75⟩ := h75
                have I1 := MI_keep hs I0 k75
                have rk : mR m75 s = mR m s := by rw [mR_52 (m_52 k75), r0]
                refine g_aload_n hF (by decide +kernel : decode cX5_merge 78 = .ok (.aload_n 0, 1)) rfl ?_
                refine g_iload_n hF (by decide +kernel : decode cX5_merge 79 = .ok (.iload_n 1, 1)) rfl ?_
                refine g_iload_n hF (by decide +kernel : decode cX5_merge 80 = .ok (.iload_n 2, 1)) rfl ?_
                refine g_callV hF lkX5_60 (c_X5_at X hX _ (by omega) _ (show num _ from ⟨by omega, by omega⟩) _) (by decide +kernel : decode cX5_merge 81 = .ok (.invokevirtual 60, 3)) (by decide) rfl rfl rfl rfl jok51 (Nat.le_of_ble_eq_true rfl) (fun v81 m81 h81 => ?_)
                obtain ⟨rfl, e81⟩ := h81
                obtain rfl := e81.symm
                rw [show mR m75 s (k + 1) = tat (mR m s) k by rw [rk, tat_in hk2]]
                have hb := tat_b hr k
                have j137 : ∀ (x a : Int), x = mergeV (tat (mR m s) k) v 120 → jG F X m75 137 [(0, vR 2 51), (1, vI s), (2, vI k), (3, vI v), (4, vI 120), (5, vI 1), (6, vI a)] [vI x] := by
                  intro x a hx
                  refine g_istore hF (by decide +kernel : decode cX5_merge 137 = .ok (.istore 7, 2)) (by decide) ?_
                  refine g_aload_n hF (by decide +kernel : decode cX5_merge 139 = .ok (.aload_n 0, 1)) rfl ?_
                  refine g_iload_n hF (by decide +kernel : decode cX5_merge 140 = .ok (.iload_n 1, 1)) rfl ?_
                  refine g_iload_n hF (by decide +kernel : decode cX5_merge 141 = .ok (.iload_n 2, 1)) rfl ?_
                  refine g_iload hF (by decide +kernel : decode cX5_merge 142 = .ok (.iload 7, 2)) rfl ?_
                  refine g_callV hF lkX5_64 (c_X5_sets X hX _ (by omega) _ _ (show num _ from ⟨by omega, by omega⟩) _) (by decide +kernel : decode cX5_merge 144 = .ok (.invokevirtual 64, 3)) (by decide) rfl rfl rfl rfl jok51 (Nat.le_of_ble_eq_true rfl) (fun v144 m144 h144 => ?_)
                  obtain ⟨rfl, e144⟩ := h144
                  have cw : MW m65 s (fmark (mR m s) k x) m144 := by rw [← rk]; exact MW_of k75 e144
                  refine g_iload hF (by decide +kernel : decode cX5_merge 147 = .ok (.iload 7, 2)) rfl ?_
                  refine g_ireturn hF hQ (by decide +kernel : decode cX5_merge 149 = .ok (.ireturn, 1)) ?_
                  exact ⟨by rw [hx], by rw [← e65, ← hx]; exact cw⟩
                refine g_istore hF (by decide +kernel : decode cX5_merge 84 = .ok (.istore 6, 2)) (by decide) ?_
                refine g_iload hF (by decide +kernel : decode cX5_merge 86 = .ok (.iload 6, 2)) rfl ?_
                refine g_if_ge hF (tgt := 95) (by decide +kernel : decode cX5_merge 88 = .ok (.ifCond .ge 7, 3)) (by decide) (by omega) (fun c88 => ?_) (fun c88 => ?_)
                · skip
                  refine g_iload hF (by decide +kernel : decode cX5_merge 95 = .ok (.iload 4, 2)) rfl ?_
                  refine g_bipush hF (by decide +kernel : decode cX5_merge 97 = .ok (.bipush 43, 2)) (by decide) ?_
                  refine g_icmp_ne hF (tgt := 113) (by decide +kernel : decode cX5_merge 99 = .ok (.if_icmp .ne 14, 3)) (by decide) (by omega) (by omega) (fun c99 => ?_) (fun c99 => ?_)
                  · skip
                    refine g_iload hF (by decide +kernel : decode cX5_merge 113 = .ok (.iload 4, 2)) rfl ?_
                    refine g_bipush hF (by decide +kernel : decode cX5_merge 115 = .ok (.bipush 120, 2)) (by decide) ?_
                    refine g_icmp_ne hF (tgt := 125) (by decide +kernel : decode cX5_merge 117 = .ok (.if_icmp .ne 8, 3)) (by decide) (by omega) (by omega) (fun c117 => ?_) (fun c117 => ?_)
                    · skip
                      exact absurd c117 (by decide)
                    · skip
                      refine g_bipush hF (by decide +kernel : decode cX5_merge 120 = .ok (.bipush (-2), 2)) (by decide) ?_
                      refine g_goto hF (tgt := 137) (by decide +kernel : decode cX5_merge 122 = .ok (.goto 15, 3)) (by decide) ?_
                      exact j137 _ _ (by unfold mergeV; first | (rw [if_pos (by omega)]; done) | (rw [if_neg (by omega), if_pos (by omega)]; exact wr_mod (by omega)) | (rw [if_neg (by omega), if_neg (by omega), if_neg (by omega)]; done) | (rw [if_neg (by omega), if_neg (by omega), if_pos (by omega), if_pos (by omega)]; done) | (rw [if_neg (show ¬ tat (mR m s) k < 0 by omega), if_neg (by decide), if_pos rfl, if_neg (show ¬ tat (mR m s) k < v by omega)]; done) | (rw [if_neg (show ¬ tat (mR m s) k < 0 by omega), if_neg (by decide), if_pos rfl]; split <;> omega))
                  · skip
                    exact absurd c99 (by decide)
                · skip
                  refine g_iload_n hF (by decide +kernel : decode cX5_merge 91 = .ok (.iload_n 3, 1)) rfl ?_
                  refine g_goto hF (tgt := 137) (by decide +kernel : decode cX5_merge 92 = .ok (.goto 45, 3)) (by decide) ?_
                  exact j137 _ _ (by unfold mergeV; first | (rw [if_pos (by omega)]; done) | (rw [if_neg (by omega), if_pos (by omega)]; exact wr_mod (by omega)) | (rw [if_neg (by omega), if_neg (by omega), if_neg (by omega)]; done) | (rw [if_neg (by omega), if_neg (by omega), if_pos (by omega), if_pos (by omega)]; done) | (rw [if_neg (show ¬ tat (mR m s) k < 0 by omega), if_neg (by decide), if_pos rfl, if_neg (show ¬ tat (mR m s) k < v by omega)]; done) | (rw [if_neg (show ¬ tat (mR m s) k < 0 by omega), if_neg (by decide), if_pos rfl]; split <;> omega))
              · skip
                exact absurd c68 (by decide)
            · skip
              exact absurd c57 (by omega)
        · skip
          exact absurd c37 (by decide)
theorem y_X5_merge (X : jX) (hX : jxok X) (s : Nat) (hs : s < 8) (k v h : Int) (hk : num k) (hv : 0 ≤ v ∧ v ≤ 255) (hw : wayM h) (m : jM) (hI : MI m) : Con X yX5_merge cX5_merge 8 (some .int) 8 [vR 2 51, vI s, vI k, vI v, vI h] m (fun o m' => o = some (vI (mergeV (tat (mR m s) k) v h)) ∧ MW (mset m 51 2 0) s (fmark (mR m s) k (mergeV (tat (mR m s) k) v h)) m') := by
  rcases hw with rfl | rfl | rfl
  · exact ya_X5_merge X hX s hs k v hk hv m hI
  · exact yb_X5_merge X hX s hs k v hk hv m hI
  · exact yc_X5_merge X hX s hs k v hk hv m hI
set_option maxHeartbeats 4000000 in
set_option maxRecDepth 100000 in
theorem n1_X5_merge (X : jX) (hX : jxok X) (s : Int) (js : jr s) (k : Int) (jk : jr k) (v : Int) (jv : jr v) (h0 : Int) (jh : jr h0) (m : jM) (h : ¬ (0 ≤ s ∧ s < 8)) : Con X yX5_merge cX5_merge 8 (some .int) 8 [vR 2 51, vI s, vI k, vI v, vI h0] m (fun o m' => o = some (vI 0) ∧ m' = mset m 51 2 1) := by
  refine Con.of hX (by decide) (Nat.le_of_ble_eq_true rfl) (fun F hF hQ => ?_)
  refine g_iload hF (by decide +kernel : decode cX5_merge 0 = .ok (.iload 4, 2)) rfl ?_
  refine g_bipush hF (by decide +kernel : decode cX5_merge 2 = .ok (.bipush 43, 2)) (by decide) ?_
  refine g_icmp_eq hF (tgt := 21) (by decide +kernel : decode cX5_merge 4 = .ok (.if_icmp .eq 17, 3)) (by decide) (by omega) (by omega) (fun c4 => ?_) (fun c4 => ?_)
  · skip
    refine g_iconst hF (by decide +kernel : decode cX5_merge 21 = .ok (.iconst 1, 1)) ?_
    refine g_goto hF (tgt := 26) (by decide +kernel : decode cX5_merge 22 = .ok (.goto 4, 3)) (by decide) ?_
    refine g_istore hF (by decide +kernel : decode cX5_merge 26 = .ok (.istore 5, 2)) (by decide) ?_
    refine g_aload_n hF (by decide +kernel : decode cX5_merge 28 = .ok (.aload_n 0, 1)) rfl ?_
    refine g_aload_n hF (by decide +kernel : decode cX5_merge 29 = .ok (.aload_n 0, 1)) rfl ?_
    refine g_iload_n hF (by decide +kernel : decode cX5_merge 30 = .ok (.iload_n 1, 1)) rfl ?_
    refine g_iload_n hF (by decide +kernel : decode cX5_merge 31 = .ok (.iload_n 2, 1)) rfl ?_
    refine g_iload_n hF (by decide +kernel : decode cX5_merge 32 = .ok (.iload_n 3, 1)) rfl ?_
    refine g_iconst hF (by decide +kernel : decode cX5_merge 33 = .ok (.iconst 0, 1)) ?_
    refine g_callV hF lkX5_49 (n1_X5_no X hX _ (by omega) (by omega) _ _ _ _) (by decide +kernel : decode cX5_merge 34 = .ok (.invokevirtual 49, 3)) (by decide) rfl rfl rfl rfl jok51 (Nat.le_of_ble_eq_true rfl) (fun v34 m34 h34 => ?_)
    obtain ⟨rfl, e34⟩ := h34
    obtain rfl := e34.symm
    refine g_if_le hF (tgt := 51) (by decide +kernel : decode cX5_merge 37 = .ok (.ifCond .le 14, 3)) (by decide) (by omega) (fun c37 => ?_) (fun c37 => ?_)
    · skip
      exact absurd c37 (by decide)
    · skip
      refine g_aload_n hF (by decide +kernel : decode cX5_merge 40 = .ok (.aload_n 0, 1)) rfl ?_
      refine g_iload_n hF (by decide +kernel : decode cX5_merge 41 = .ok (.iload_n 1, 1)) rfl ?_
      refine g_iload_n hF (by decide +kernel : decode cX5_merge 42 = .ok (.iload_n 2, 1)) rfl ?_
      refine g_iload_n hF (by decide +kernel : decode cX5_merge 43 = .ok (.iload_n 3, 1)) rfl ?_
      refine g_iconst hF (by decide +kernel : decode cX5_merge 44 = .ok (.iconst 0, 1)) ?_
      refine g_callV hF lkX5_49 (n1_X5_no X hX _ (by omega) (by omega) _ _ _ _) (by decide +kernel : decode cX5_merge 45 = .ok (.invokevirtual 49, 3)) (by decide) rfl rfl rfl rfl jok51 (Nat.le_of_ble_eq_true rfl) (fun v45 m45 h45 => ?_)
      obtain ⟨rfl, e45⟩ := h45
      obtain rfl := e45.symm
      refine g_goto hF (tgt := 65) (by decide +kernel : decode cX5_merge 48 = .ok (.goto 17, 3)) (by decide) ?_
      refine g_callV hF lkX5_53 (n_X5_fails X hX _ (by decide) _) (by decide +kernel : decode cX5_merge 65 = .ok (.invokevirtual 53, 3)) (by decide) rfl rfl rfl rfl jok51 (Nat.le_of_ble_eq_true rfl) (fun v65 m65 h65 => ?_)
      obtain ⟨rfl, e65⟩ := h65
      obtain rfl := e65.symm
      refine g_if_eq hF (tgt := 73) (by decide +kernel : decode cX5_merge 68 = .ok (.ifCond .eq 5, 3)) (by decide) (by omega) (fun c68 => ?_) (fun c68 => ?_)
      · skip
        exact absurd c68 (by decide)
      · skip
        refine g_iconst hF (by decide +kernel : decode cX5_merge 71 = .ok (.iconst 0, 1)) ?_
        refine g_ireturn hF hQ (by decide +kernel : decode cX5_merge 72 = .ok (.ireturn, 1)) ?_
        exact ⟨rfl, rfl⟩
  · skip
    refine g_iload hF (by decide +kernel : decode cX5_merge 7 = .ok (.iload 4, 2)) rfl ?_
    refine g_bipush hF (by decide +kernel : decode cX5_merge 9 = .ok (.bipush 62, 2)) (by decide) ?_
    refine g_icmp_eq hF (tgt := 21) (by decide +kernel : decode cX5_merge 11 = .ok (.if_icmp .eq 10, 3)) (by decide) (by omega) (by omega) (fun c11 => ?_) (fun c11 => ?_)
    · skip
      refine g_iconst hF (by decide +kernel : decode cX5_merge 21 = .ok (.iconst 1, 1)) ?_
      refine g_goto hF (tgt := 26) (by decide +kernel : decode cX5_merge 22 = .ok (.goto 4, 3)) (by decide) ?_
      refine g_istore hF (by decide +kernel : decode cX5_merge 26 = .ok (.istore 5, 2)) (by decide) ?_
      refine g_aload_n hF (by decide +kernel : decode cX5_merge 28 = .ok (.aload_n 0, 1)) rfl ?_
      refine g_aload_n hF (by decide +kernel : decode cX5_merge 29 = .ok (.aload_n 0, 1)) rfl ?_
      refine g_iload_n hF (by decide +kernel : decode cX5_merge 30 = .ok (.iload_n 1, 1)) rfl ?_
      refine g_iload_n hF (by decide +kernel : decode cX5_merge 31 = .ok (.iload_n 2, 1)) rfl ?_
      refine g_iload_n hF (by decide +kernel : decode cX5_merge 32 = .ok (.iload_n 3, 1)) rfl ?_
      refine g_iconst hF (by decide +kernel : decode cX5_merge 33 = .ok (.iconst 0, 1)) ?_
      refine g_callV hF lkX5_49 (n1_X5_no X hX _ (by omega) (by omega) _ _ _ _) (by decide +kernel : decode cX5_merge 34 = .ok (.invokevirtual 49, 3)) (by decide) rfl rfl rfl rfl jok51 (Nat.le_of_ble_eq_true rfl) (fun v34 m34 h34 => ?_)
      obtain ⟨rfl, e34⟩ := h34
      obtain rfl := e34.symm
      refine g_if_le hF (tgt := 51) (by decide +kernel : decode cX5_merge 37 = .ok (.ifCond .le 14, 3)) (by decide) (by omega) (fun c37 => ?_) (fun c37 => ?_)
      · skip
        exact absurd c37 (by decide)
      · skip
        refine g_aload_n hF (by decide +kernel : decode cX5_merge 40 = .ok (.aload_n 0, 1)) rfl ?_
        refine g_iload_n hF (by decide +kernel : decode cX5_merge 41 = .ok (.iload_n 1, 1)) rfl ?_
        refine g_iload_n hF (by decide +kernel : decode cX5_merge 42 = .ok (.iload_n 2, 1)) rfl ?_
        refine g_iload_n hF (by decide +kernel : decode cX5_merge 43 = .ok (.iload_n 3, 1)) rfl ?_
        refine g_iconst hF (by decide +kernel : decode cX5_merge 44 = .ok (.iconst 0, 1)) ?_
        refine g_callV hF lkX5_49 (n1_X5_no X hX _ (by omega) (by omega) _ _ _ _) (by decide +kernel : decode cX5_merge 45 = .ok (.invokevirtual 49, 3)) (by decide) rfl rfl rfl rfl jok51 (Nat.le_of_ble_eq_true rfl) (fun v45 m45 h45 => ?_)
        obtain ⟨rfl, e45⟩ := h45
        obtain rfl := e45.symm
        refine g_goto hF (tgt := 65) (by decide +kernel : decode cX5_merge 48 = .ok (.goto 17, 3)) (by decide) ?_
        refine g_callV hF lkX5_53 (n_X5_fails X hX _ (by decide) _) (by decide +kernel : decode cX5_merge 65 = .ok (.invokevirtual 53, 3)) (by decide) rfl rfl rfl rfl jok51 (Nat.le_of_ble_eq_true rfl) (fun v65 m65 h65 => ?_)
        obtain ⟨rfl, e65⟩ := h65
        obtain rfl := e65.symm
        refine g_if_eq hF (tgt := 73) (by decide +kernel : decode cX5_merge 68 = .ok (.ifCond .eq 5, 3)) (by decide) (by omega) (fun c68 => ?_) (fun c68 => ?_)
        · skip
          exact absurd c68 (by decide)
        · skip
          refine g_iconst hF (by decide +kernel : decode cX5_merge 71 = .ok (.iconst 0, 1)) ?_
          refine g_ireturn hF hQ (by decide +kernel : decode cX5_merge 72 = .ok (.ireturn, 1)) ?_
          exact ⟨rfl, rfl⟩
    · skip
      refine g_iload hF (by decide +kernel : decode cX5_merge 14 = .ok (.iload 4, 2)) rfl ?_
      refine g_bipush hF (by decide +kernel : decode cX5_merge 16 = .ok (.bipush 120, 2)) (by decide) ?_
      refine g_icmp_ne hF (tgt := 25) (by decide +kernel : decode cX5_merge 18 = .ok (.if_icmp .ne 7, 3)) (by decide) (by omega) (by omega) (fun c18 => ?_) (fun c18 => ?_)
      · skip
        refine g_iconst hF (by decide +kernel : decode cX5_merge 25 = .ok (.iconst 0, 1)) ?_
        refine g_istore hF (by decide +kernel : decode cX5_merge 26 = .ok (.istore 5, 2)) (by decide) ?_
        refine g_aload_n hF (by decide +kernel : decode cX5_merge 28 = .ok (.aload_n 0, 1)) rfl ?_
        refine g_aload_n hF (by decide +kernel : decode cX5_merge 29 = .ok (.aload_n 0, 1)) rfl ?_
        refine g_iload_n hF (by decide +kernel : decode cX5_merge 30 = .ok (.iload_n 1, 1)) rfl ?_
        refine g_iload_n hF (by decide +kernel : decode cX5_merge 31 = .ok (.iload_n 2, 1)) rfl ?_
        refine g_iload_n hF (by decide +kernel : decode cX5_merge 32 = .ok (.iload_n 3, 1)) rfl ?_
        refine g_iconst hF (by decide +kernel : decode cX5_merge 33 = .ok (.iconst 0, 1)) ?_
        refine g_callV hF lkX5_49 (n1_X5_no X hX _ (by omega) (by omega) _ _ _ _) (by decide +kernel : decode cX5_merge 34 = .ok (.invokevirtual 49, 3)) (by decide) rfl rfl rfl rfl jok51 (Nat.le_of_ble_eq_true rfl) (fun v34 m34 h34 => ?_)
        obtain ⟨rfl, e34⟩ := h34
        obtain rfl := e34.symm
        refine g_if_le hF (tgt := 51) (by decide +kernel : decode cX5_merge 37 = .ok (.ifCond .le 14, 3)) (by decide) (by omega) (fun c37 => ?_) (fun c37 => ?_)
        · skip
          exact absurd c37 (by decide)
        · skip
          refine g_aload_n hF (by decide +kernel : decode cX5_merge 40 = .ok (.aload_n 0, 1)) rfl ?_
          refine g_iload_n hF (by decide +kernel : decode cX5_merge 41 = .ok (.iload_n 1, 1)) rfl ?_
          refine g_iload_n hF (by decide +kernel : decode cX5_merge 42 = .ok (.iload_n 2, 1)) rfl ?_
          refine g_iload_n hF (by decide +kernel : decode cX5_merge 43 = .ok (.iload_n 3, 1)) rfl ?_
          refine g_iconst hF (by decide +kernel : decode cX5_merge 44 = .ok (.iconst 0, 1)) ?_
          refine g_callV hF lkX5_49 (n1_X5_no X hX _ (by omega) (by omega) _ _ _ _) (by decide +kernel : decode cX5_merge 45 = .ok (.invokevirtual 49, 3)) (by decide) rfl rfl rfl rfl jok51 (Nat.le_of_ble_eq_true rfl) (fun v45 m45 h45 => ?_)
          obtain ⟨rfl, e45⟩ := h45
          obtain rfl := e45.symm
          refine g_goto hF (tgt := 65) (by decide +kernel : decode cX5_merge 48 = .ok (.goto 17, 3)) (by decide) ?_
          refine g_callV hF lkX5_53 (n_X5_fails X hX _ (by decide) _) (by decide +kernel : decode cX5_merge 65 = .ok (.invokevirtual 53, 3)) (by decide) rfl rfl rfl rfl jok51 (Nat.le_of_ble_eq_true rfl) (fun v65 m65 h65 => ?_)
          obtain ⟨rfl, e65⟩ := h65
          obtain rfl := e65.symm
          refine g_if_eq hF (tgt := 73) (by decide +kernel : decode cX5_merge 68 = .ok (.ifCond .eq 5, 3)) (by decide) (by omega) (fun c68 => ?_) (fun c68 => ?_)
          · skip
            exact absurd c68 (by decide)
          · skip
            refine g_iconst hF (by decide +kernel : decode cX5_merge 71 = .ok (.iconst 0, 1)) ?_
            refine g_ireturn hF hQ (by decide +kernel : decode cX5_merge 72 = .ok (.ireturn, 1)) ?_
            exact ⟨rfl, rfl⟩
      · skip
        refine g_iconst hF (by decide +kernel : decode cX5_merge 21 = .ok (.iconst 1, 1)) ?_
        refine g_goto hF (tgt := 26) (by decide +kernel : decode cX5_merge 22 = .ok (.goto 4, 3)) (by decide) ?_
        refine g_istore hF (by decide +kernel : decode cX5_merge 26 = .ok (.istore 5, 2)) (by decide) ?_
        refine g_aload_n hF (by decide +kernel : decode cX5_merge 28 = .ok (.aload_n 0, 1)) rfl ?_
        refine g_aload_n hF (by decide +kernel : decode cX5_merge 29 = .ok (.aload_n 0, 1)) rfl ?_
        refine g_iload_n hF (by decide +kernel : decode cX5_merge 30 = .ok (.iload_n 1, 1)) rfl ?_
        refine g_iload_n hF (by decide +kernel : decode cX5_merge 31 = .ok (.iload_n 2, 1)) rfl ?_
        refine g_iload_n hF (by decide +kernel : decode cX5_merge 32 = .ok (.iload_n 3, 1)) rfl ?_
        refine g_iconst hF (by decide +kernel : decode cX5_merge 33 = .ok (.iconst 0, 1)) ?_
        refine g_callV hF lkX5_49 (n1_X5_no X hX _ (by omega) (by omega) _ _ _ _) (by decide +kernel : decode cX5_merge 34 = .ok (.invokevirtual 49, 3)) (by decide) rfl rfl rfl rfl jok51 (Nat.le_of_ble_eq_true rfl) (fun v34 m34 h34 => ?_)
        obtain ⟨rfl, e34⟩ := h34
        obtain rfl := e34.symm
        refine g_if_le hF (tgt := 51) (by decide +kernel : decode cX5_merge 37 = .ok (.ifCond .le 14, 3)) (by decide) (by omega) (fun c37 => ?_) (fun c37 => ?_)
        · skip
          exact absurd c37 (by decide)
        · skip
          refine g_aload_n hF (by decide +kernel : decode cX5_merge 40 = .ok (.aload_n 0, 1)) rfl ?_
          refine g_iload_n hF (by decide +kernel : decode cX5_merge 41 = .ok (.iload_n 1, 1)) rfl ?_
          refine g_iload_n hF (by decide +kernel : decode cX5_merge 42 = .ok (.iload_n 2, 1)) rfl ?_
          refine g_iload_n hF (by decide +kernel : decode cX5_merge 43 = .ok (.iload_n 3, 1)) rfl ?_
          refine g_iconst hF (by decide +kernel : decode cX5_merge 44 = .ok (.iconst 0, 1)) ?_
          refine g_callV hF lkX5_49 (n1_X5_no X hX _ (by omega) (by omega) _ _ _ _) (by decide +kernel : decode cX5_merge 45 = .ok (.invokevirtual 49, 3)) (by decide) rfl rfl rfl rfl jok51 (Nat.le_of_ble_eq_true rfl) (fun v45 m45 h45 => ?_)
          obtain ⟨rfl, e45⟩ := h45
          obtain rfl := e45.symm
          refine g_goto hF (tgt := 65) (by decide +kernel : decode cX5_merge 48 = .ok (.goto 17, 3)) (by decide) ?_
          refine g_callV hF lkX5_53 (n_X5_fails X hX _ (by decide) _) (by decide +kernel : decode cX5_merge 65 = .ok (.invokevirtual 53, 3)) (by decide) rfl rfl rfl rfl jok51 (Nat.le_of_ble_eq_true rfl) (fun v65 m65 h65 => ?_)
          obtain ⟨rfl, e65⟩ := h65
          obtain rfl := e65.symm
          refine g_if_eq hF (tgt := 73) (by decide +kernel : decode cX5_merge 68 = .ok (.ifCond .eq 5, 3)) (by decide) (by omega) (fun c68 => ?_) (fun c68 => ?_)
          · skip
            exact absurd c68 (by decide)
          · skip
            refine g_iconst hF (by decide +kernel : decode cX5_merge 71 = .ok (.iconst 0, 1)) ?_
            refine g_ireturn hF hQ (by decide +kernel : decode cX5_merge 72 = .ok (.ireturn, 1)) ?_
            exact ⟨rfl, rfl⟩
set_option maxHeartbeats 4000000 in
set_option maxRecDepth 100000 in
theorem n2_X5_merge (X : jX) (hX : jxok X) (s : Nat) (hs : s < 8) (k : Int) (jk : jr k) (v : Int) (jv : jr v) (h0 : Int) (jh : jr h0) (m : jM) (h : ¬ (num k ∧ (0 ≤ v ∧ v ≤ 255) ∧ wayM h0)) : Con X yX5_merge cX5_merge 8 (some .int) 8 [vR 2 51, vI s, vI k, vI v, vI h0] m (fun o m' => o = some (vI 0) ∧ m' = mset m 51 2 2) := by
  refine Con.of hX (by decide) (Nat.le_of_ble_eq_true rfl) (fun F hF hQ => ?_)
  refine g_iload hF (by decide +kernel : decode cX5_merge 0 = .ok (.iload 4, 2)) rfl ?_
  refine g_bipush hF (by decide +kernel : decode cX5_merge 2 = .ok (.bipush 43, 2)) (by decide) ?_
  refine g_icmp_eq hF (tgt := 21) (by decide +kernel : decode cX5_merge 4 = .ok (.if_icmp .eq 17, 3)) (by decide) (by omega) (by omega) (fun c4 => ?_) (fun c4 => ?_)
  · skip
    refine g_iconst hF (by decide +kernel : decode cX5_merge 21 = .ok (.iconst 1, 1)) ?_
    refine g_goto hF (tgt := 26) (by decide +kernel : decode cX5_merge 22 = .ok (.goto 4, 3)) (by decide) ?_
    refine g_istore hF (by decide +kernel : decode cX5_merge 26 = .ok (.istore 5, 2)) (by decide) ?_
    refine g_aload_n hF (by decide +kernel : decode cX5_merge 28 = .ok (.aload_n 0, 1)) rfl ?_
    refine g_aload_n hF (by decide +kernel : decode cX5_merge 29 = .ok (.aload_n 0, 1)) rfl ?_
    refine g_iload_n hF (by decide +kernel : decode cX5_merge 30 = .ok (.iload_n 1, 1)) rfl ?_
    refine g_iload_n hF (by decide +kernel : decode cX5_merge 31 = .ok (.iload_n 2, 1)) rfl ?_
    refine g_iload_n hF (by decide +kernel : decode cX5_merge 32 = .ok (.iload_n 3, 1)) rfl ?_
    refine g_iconst hF (by decide +kernel : decode cX5_merge 33 = .ok (.iconst 0, 1)) ?_
    rcases Classical.em (num k ∧ num v) with s34 | s34
    · skip
      refine g_callV hF lkX5_49 (y_X5_no X hX _ (by omega) _ _ _ (by omega) (by omega) (by omega) ⟨s34.1, s34.2, by unfold num; omega⟩ _) (by decide +kernel : decode cX5_merge 34 = .ok (.invokevirtual 49, 3)) (by decide) rfl rfl rfl rfl jok51 (Nat.le_of_ble_eq_true rfl) (fun v34 m34 h34 => ?_)
      obtain ⟨rfl, e34⟩ := h34
      obtain rfl := e34.symm
      refine g_if_le hF (tgt := 51) (by decide +kernel : decode cX5_merge 37 = .ok (.ifCond .le 14, 3)) (by decide) (by omega) (fun c37 => ?_) (fun c37 => ?_)
      · skip
        refine g_iload hF (by decide +kernel : decode cX5_merge 51 = .ok (.iload 5, 2)) rfl ?_
        refine g_if_eq hF (tgt := 60) (by decide +kernel : decode cX5_merge 53 = .ok (.ifCond .eq 7, 3)) (by decide) (by omega) (fun c53 => ?_) (fun c53 => ?_)
        · skip
          exact absurd c53 (by decide)
        · skip
          refine g_iload_n hF (by decide +kernel : decode cX5_merge 56 = .ok (.iload_n 3, 1)) rfl ?_
          refine g_if_ge hF (tgt := 64) (by decide +kernel : decode cX5_merge 57 = .ok (.ifCond .ge 7, 3)) (by decide) (by omega) (fun c57 => ?_) (fun c57 => ?_)
          · skip
            have q1 := s34.2
            unfold num at q1
            exact absurd ⟨s34.1, ⟨by omega, by omega⟩, by show wayM h0; omega⟩ h
          · skip
            refine g_iconst hF (by decide +kernel : decode cX5_merge 60 = .ok (.iconst 2, 1)) ?_
            refine g_goto hF (tgt := 65) (by decide +kernel : decode cX5_merge 61 = .ok (.goto 4, 3)) (by decide) ?_
            refine g_callV hF lkX5_53 (n_X5_fails X hX _ (by decide) _) (by decide +kernel : decode cX5_merge 65 = .ok (.invokevirtual 53, 3)) (by decide) rfl rfl rfl rfl jok51 (Nat.le_of_ble_eq_true rfl) (fun v65 m65 h65 => ?_)
            obtain ⟨rfl, e65⟩ := h65
            obtain rfl := e65.symm
            refine g_if_eq hF (tgt := 73) (by decide +kernel : decode cX5_merge 68 = .ok (.ifCond .eq 5, 3)) (by decide) (by omega) (fun c68 => ?_) (fun c68 => ?_)
            · skip
              exact absurd c68 (by decide)
            · skip
              refine g_iconst hF (by decide +kernel : decode cX5_merge 71 = .ok (.iconst 0, 1)) ?_
              refine g_ireturn hF hQ (by decide +kernel : decode cX5_merge 72 = .ok (.ireturn, 1)) ?_
              exact ⟨rfl, rfl⟩
      · skip
        exact absurd c37 (by decide)
    · skip
      refine g_callV hF lkX5_49 (n2_X5_no X hX _ (by omega) _ _ _ (by omega) (by omega) (by omega) (fun q => s34 ⟨q.1, q.2.1⟩) _) (by decide +kernel : decode cX5_merge 34 = .ok (.invokevirtual 49, 3)) (by decide) rfl rfl rfl rfl jok51 (Nat.le_of_ble_eq_true rfl) (fun v34 m34 h34 => ?_)
      obtain ⟨rfl, e34⟩ := h34
      obtain rfl := e34.symm
      refine g_if_le hF (tgt := 51) (by decide +kernel : decode cX5_merge 37 = .ok (.ifCond .le 14, 3)) (by decide) (by omega) (fun c37 => ?_) (fun c37 => ?_)
      · skip
        exact absurd c37 (by decide)
      · skip
        refine g_aload_n hF (by decide +kernel : decode cX5_merge 40 = .ok (.aload_n 0, 1)) rfl ?_
        refine g_iload_n hF (by decide +kernel : decode cX5_merge 41 = .ok (.iload_n 1, 1)) rfl ?_
        refine g_iload_n hF (by decide +kernel : decode cX5_merge 42 = .ok (.iload_n 2, 1)) rfl ?_
        refine g_iload_n hF (by decide +kernel : decode cX5_merge 43 = .ok (.iload_n 3, 1)) rfl ?_
        refine g_iconst hF (by decide +kernel : decode cX5_merge 44 = .ok (.iconst 0, 1)) ?_
        refine g_callV hF lkX5_49 (n2_X5_no X hX _ (by omega) _ _ _ (by omega) (by omega) (by omega) (fun q => s34 ⟨q.1, q.2.1⟩) _) (by decide +kernel : decode cX5_merge 45 = .ok (.invokevirtual 49, 3)) (by decide) rfl rfl rfl rfl jok51 (Nat.le_of_ble_eq_true rfl) (fun v45 m45 h45 => ?_)
        obtain ⟨rfl, e45⟩ := h45
        obtain rfl := e45.symm
        refine g_goto hF (tgt := 65) (by decide +kernel : decode cX5_merge 48 = .ok (.goto 17, 3)) (by decide) ?_
        refine g_callV hF lkX5_53 (n_X5_fails X hX _ (by decide) _) (by decide +kernel : decode cX5_merge 65 = .ok (.invokevirtual 53, 3)) (by decide) rfl rfl rfl rfl jok51 (Nat.le_of_ble_eq_true rfl) (fun v65 m65 h65 => ?_)
        obtain ⟨rfl, e65⟩ := h65
        obtain rfl := e65.symm
        refine g_if_eq hF (tgt := 73) (by decide +kernel : decode cX5_merge 68 = .ok (.ifCond .eq 5, 3)) (by decide) (by omega) (fun c68 => ?_) (fun c68 => ?_)
        · skip
          exact absurd c68 (by decide)
        · skip
          refine g_iconst hF (by decide +kernel : decode cX5_merge 71 = .ok (.iconst 0, 1)) ?_
          refine g_ireturn hF hQ (by decide +kernel : decode cX5_merge 72 = .ok (.ireturn, 1)) ?_
          exact ⟨rfl, rfl⟩
  · skip
    refine g_iload hF (by decide +kernel : decode cX5_merge 7 = .ok (.iload 4, 2)) rfl ?_
    refine g_bipush hF (by decide +kernel : decode cX5_merge 9 = .ok (.bipush 62, 2)) (by decide) ?_
    refine g_icmp_eq hF (tgt := 21) (by decide +kernel : decode cX5_merge 11 = .ok (.if_icmp .eq 10, 3)) (by decide) (by omega) (by omega) (fun c11 => ?_) (fun c11 => ?_)
    · skip
      refine g_iconst hF (by decide +kernel : decode cX5_merge 21 = .ok (.iconst 1, 1)) ?_
      refine g_goto hF (tgt := 26) (by decide +kernel : decode cX5_merge 22 = .ok (.goto 4, 3)) (by decide) ?_
      refine g_istore hF (by decide +kernel : decode cX5_merge 26 = .ok (.istore 5, 2)) (by decide) ?_
      refine g_aload_n hF (by decide +kernel : decode cX5_merge 28 = .ok (.aload_n 0, 1)) rfl ?_
      refine g_aload_n hF (by decide +kernel : decode cX5_merge 29 = .ok (.aload_n 0, 1)) rfl ?_
      refine g_iload_n hF (by decide +kernel : decode cX5_merge 30 = .ok (.iload_n 1, 1)) rfl ?_
      refine g_iload_n hF (by decide +kernel : decode cX5_merge 31 = .ok (.iload_n 2, 1)) rfl ?_
      refine g_iload_n hF (by decide +kernel : decode cX5_merge 32 = .ok (.iload_n 3, 1)) rfl ?_
      refine g_iconst hF (by decide +kernel : decode cX5_merge 33 = .ok (.iconst 0, 1)) ?_
      rcases Classical.em (num k ∧ num v) with s34 | s34
      · skip
        refine g_callV hF lkX5_49 (y_X5_no X hX _ (by omega) _ _ _ (by omega) (by omega) (by omega) ⟨s34.1, s34.2, by unfold num; omega⟩ _) (by decide +kernel : decode cX5_merge 34 = .ok (.invokevirtual 49, 3)) (by decide) rfl rfl rfl rfl jok51 (Nat.le_of_ble_eq_true rfl) (fun v34 m34 h34 => ?_)
        obtain ⟨rfl, e34⟩ := h34
        obtain rfl := e34.symm
        refine g_if_le hF (tgt := 51) (by decide +kernel : decode cX5_merge 37 = .ok (.ifCond .le 14, 3)) (by decide) (by omega) (fun c37 => ?_) (fun c37 => ?_)
        · skip
          refine g_iload hF (by decide +kernel : decode cX5_merge 51 = .ok (.iload 5, 2)) rfl ?_
          refine g_if_eq hF (tgt := 60) (by decide +kernel : decode cX5_merge 53 = .ok (.ifCond .eq 7, 3)) (by decide) (by omega) (fun c53 => ?_) (fun c53 => ?_)
          · skip
            exact absurd c53 (by decide)
          · skip
            refine g_iload_n hF (by decide +kernel : decode cX5_merge 56 = .ok (.iload_n 3, 1)) rfl ?_
            refine g_if_ge hF (tgt := 64) (by decide +kernel : decode cX5_merge 57 = .ok (.ifCond .ge 7, 3)) (by decide) (by omega) (fun c57 => ?_) (fun c57 => ?_)
            · skip
              have q1 := s34.2
              unfold num at q1
              exact absurd ⟨s34.1, ⟨by omega, by omega⟩, by show wayM h0; omega⟩ h
            · skip
              refine g_iconst hF (by decide +kernel : decode cX5_merge 60 = .ok (.iconst 2, 1)) ?_
              refine g_goto hF (tgt := 65) (by decide +kernel : decode cX5_merge 61 = .ok (.goto 4, 3)) (by decide) ?_
              refine g_callV hF lkX5_53 (n_X5_fails X hX _ (by decide) _) (by decide +kernel : decode cX5_merge 65 = .ok (.invokevirtual 53, 3)) (by decide) rfl rfl rfl rfl jok51 (Nat.le_of_ble_eq_true rfl) (fun v65 m65 h65 => ?_)
              obtain ⟨rfl, e65⟩ := h65
              obtain rfl := e65.symm
              refine g_if_eq hF (tgt := 73) (by decide +kernel : decode cX5_merge 68 = .ok (.ifCond .eq 5, 3)) (by decide) (by omega) (fun c68 => ?_) (fun c68 => ?_)
              · skip
                exact absurd c68 (by decide)
              · skip
                refine g_iconst hF (by decide +kernel : decode cX5_merge 71 = .ok (.iconst 0, 1)) ?_
                refine g_ireturn hF hQ (by decide +kernel : decode cX5_merge 72 = .ok (.ireturn, 1)) ?_
                exact ⟨rfl, rfl⟩
        · skip
          exact absurd c37 (by decide)
      · skip
        refine g_callV hF lkX5_49 (n2_X5_no X hX _ (by omega) _ _ _ (by omega) (by omega) (by omega) (fun q => s34 ⟨q.1, q.2.1⟩) _) (by decide +kernel : decode cX5_merge 34 = .ok (.invokevirtual 49, 3)) (by decide) rfl rfl rfl rfl jok51 (Nat.le_of_ble_eq_true rfl) (fun v34 m34 h34 => ?_)
        obtain ⟨rfl, e34⟩ := h34
        obtain rfl := e34.symm
        refine g_if_le hF (tgt := 51) (by decide +kernel : decode cX5_merge 37 = .ok (.ifCond .le 14, 3)) (by decide) (by omega) (fun c37 => ?_) (fun c37 => ?_)
        · skip
          exact absurd c37 (by decide)
        · skip
          refine g_aload_n hF (by decide +kernel : decode cX5_merge 40 = .ok (.aload_n 0, 1)) rfl ?_
          refine g_iload_n hF (by decide +kernel : decode cX5_merge 41 = .ok (.iload_n 1, 1)) rfl ?_
          refine g_iload_n hF (by decide +kernel : decode cX5_merge 42 = .ok (.iload_n 2, 1)) rfl ?_
          refine g_iload_n hF (by decide +kernel : decode cX5_merge 43 = .ok (.iload_n 3, 1)) rfl ?_
          refine g_iconst hF (by decide +kernel : decode cX5_merge 44 = .ok (.iconst 0, 1)) ?_
          refine g_callV hF lkX5_49 (n2_X5_no X hX _ (by omega) _ _ _ (by omega) (by omega) (by omega) (fun q => s34 ⟨q.1, q.2.1⟩) _) (by decide +kernel : decode cX5_merge 45 = .ok (.invokevirtual 49, 3)) (by decide) rfl rfl rfl rfl jok51 (Nat.le_of_ble_eq_true rfl) (fun v45 m45 h45 => ?_)
          obtain ⟨rfl, e45⟩ := h45
          obtain rfl := e45.symm
          refine g_goto hF (tgt := 65) (by decide +kernel : decode cX5_merge 48 = .ok (.goto 17, 3)) (by decide) ?_
          refine g_callV hF lkX5_53 (n_X5_fails X hX _ (by decide) _) (by decide +kernel : decode cX5_merge 65 = .ok (.invokevirtual 53, 3)) (by decide) rfl rfl rfl rfl jok51 (Nat.le_of_ble_eq_true rfl) (fun v65 m65 h65 => ?_)
          obtain ⟨rfl, e65⟩ := h65
          obtain rfl := e65.symm
          refine g_if_eq hF (tgt := 73) (by decide +kernel : decode cX5_merge 68 = .ok (.ifCond .eq 5, 3)) (by decide) (by omega) (fun c68 => ?_) (fun c68 => ?_)
          · skip
            exact absurd c68 (by decide)
          · skip
            refine g_iconst hF (by decide +kernel : decode cX5_merge 71 = .ok (.iconst 0, 1)) ?_
            refine g_ireturn hF hQ (by decide +kernel : decode cX5_merge 72 = .ok (.ireturn, 1)) ?_
            exact ⟨rfl, rfl⟩
    · skip
      refine g_iload hF (by decide +kernel : decode cX5_merge 14 = .ok (.iload 4, 2)) rfl ?_
      refine g_bipush hF (by decide +kernel : decode cX5_merge 16 = .ok (.bipush 120, 2)) (by decide) ?_
      refine g_icmp_ne hF (tgt := 25) (by decide +kernel : decode cX5_merge 18 = .ok (.if_icmp .ne 7, 3)) (by decide) (by omega) (by omega) (fun c18 => ?_) (fun c18 => ?_)
      · skip
        refine g_iconst hF (by decide +kernel : decode cX5_merge 25 = .ok (.iconst 0, 1)) ?_
        refine g_istore hF (by decide +kernel : decode cX5_merge 26 = .ok (.istore 5, 2)) (by decide) ?_
        refine g_aload_n hF (by decide +kernel : decode cX5_merge 28 = .ok (.aload_n 0, 1)) rfl ?_
        refine g_aload_n hF (by decide +kernel : decode cX5_merge 29 = .ok (.aload_n 0, 1)) rfl ?_
        refine g_iload_n hF (by decide +kernel : decode cX5_merge 30 = .ok (.iload_n 1, 1)) rfl ?_
        refine g_iload_n hF (by decide +kernel : decode cX5_merge 31 = .ok (.iload_n 2, 1)) rfl ?_
        refine g_iload_n hF (by decide +kernel : decode cX5_merge 32 = .ok (.iload_n 3, 1)) rfl ?_
        refine g_iconst hF (by decide +kernel : decode cX5_merge 33 = .ok (.iconst 0, 1)) ?_
        rcases Classical.em (num k ∧ num v) with s34 | s34
        · skip
          refine g_callV hF lkX5_49 (y_X5_no X hX _ (by omega) _ _ _ (by omega) (by omega) (by omega) ⟨s34.1, s34.2, by unfold num; omega⟩ _) (by decide +kernel : decode cX5_merge 34 = .ok (.invokevirtual 49, 3)) (by decide) rfl rfl rfl rfl jok51 (Nat.le_of_ble_eq_true rfl) (fun v34 m34 h34 => ?_)
          obtain ⟨rfl, e34⟩ := h34
          obtain rfl := e34.symm
          refine g_if_le hF (tgt := 51) (by decide +kernel : decode cX5_merge 37 = .ok (.ifCond .le 14, 3)) (by decide) (by omega) (fun c37 => ?_) (fun c37 => ?_)
          · skip
            refine g_iload hF (by decide +kernel : decode cX5_merge 51 = .ok (.iload 5, 2)) rfl ?_
            refine g_if_eq hF (tgt := 60) (by decide +kernel : decode cX5_merge 53 = .ok (.ifCond .eq 7, 3)) (by decide) (by omega) (fun c53 => ?_) (fun c53 => ?_)
            · skip
              refine g_iconst hF (by decide +kernel : decode cX5_merge 60 = .ok (.iconst 2, 1)) ?_
              refine g_goto hF (tgt := 65) (by decide +kernel : decode cX5_merge 61 = .ok (.goto 4, 3)) (by decide) ?_
              refine g_callV hF lkX5_53 (n_X5_fails X hX _ (by decide) _) (by decide +kernel : decode cX5_merge 65 = .ok (.invokevirtual 53, 3)) (by decide) rfl rfl rfl rfl jok51 (Nat.le_of_ble_eq_true rfl) (fun v65 m65 h65 => ?_)
              obtain ⟨rfl, e65⟩ := h65
              obtain rfl := e65.symm
              refine g_if_eq hF (tgt := 73) (by decide +kernel : decode cX5_merge 68 = .ok (.ifCond .eq 5, 3)) (by decide) (by omega) (fun c68 => ?_) (fun c68 => ?_)
              · skip
                exact absurd c68 (by decide)
              · skip
                refine g_iconst hF (by decide +kernel : decode cX5_merge 71 = .ok (.iconst 0, 1)) ?_
                refine g_ireturn hF hQ (by decide +kernel : decode cX5_merge 72 = .ok (.ireturn, 1)) ?_
                exact ⟨rfl, rfl⟩
            · skip
              exact absurd c53 (by decide)
          · skip
            exact absurd c37 (by decide)
        · skip
          refine g_callV hF lkX5_49 (n2_X5_no X hX _ (by omega) _ _ _ (by omega) (by omega) (by omega) (fun q => s34 ⟨q.1, q.2.1⟩) _) (by decide +kernel : decode cX5_merge 34 = .ok (.invokevirtual 49, 3)) (by decide) rfl rfl rfl rfl jok51 (Nat.le_of_ble_eq_true rfl) (fun v34 m34 h34 => ?_)
          obtain ⟨rfl, e34⟩ := h34
          obtain rfl := e34.symm
          refine g_if_le hF (tgt := 51) (by decide +kernel : decode cX5_merge 37 = .ok (.ifCond .le 14, 3)) (by decide) (by omega) (fun c37 => ?_) (fun c37 => ?_)
          · skip
            exact absurd c37 (by decide)
          · skip
            refine g_aload_n hF (by decide +kernel : decode cX5_merge 40 = .ok (.aload_n 0, 1)) rfl ?_
            refine g_iload_n hF (by decide +kernel : decode cX5_merge 41 = .ok (.iload_n 1, 1)) rfl ?_
            refine g_iload_n hF (by decide +kernel : decode cX5_merge 42 = .ok (.iload_n 2, 1)) rfl ?_
            refine g_iload_n hF (by decide +kernel : decode cX5_merge 43 = .ok (.iload_n 3, 1)) rfl ?_
            refine g_iconst hF (by decide +kernel : decode cX5_merge 44 = .ok (.iconst 0, 1)) ?_
            refine g_callV hF lkX5_49 (n2_X5_no X hX _ (by omega) _ _ _ (by omega) (by omega) (by omega) (fun q => s34 ⟨q.1, q.2.1⟩) _) (by decide +kernel : decode cX5_merge 45 = .ok (.invokevirtual 49, 3)) (by decide) rfl rfl rfl rfl jok51 (Nat.le_of_ble_eq_true rfl) (fun v45 m45 h45 => ?_)
            obtain ⟨rfl, e45⟩ := h45
            obtain rfl := e45.symm
            refine g_goto hF (tgt := 65) (by decide +kernel : decode cX5_merge 48 = .ok (.goto 17, 3)) (by decide) ?_
            refine g_callV hF lkX5_53 (n_X5_fails X hX _ (by decide) _) (by decide +kernel : decode cX5_merge 65 = .ok (.invokevirtual 53, 3)) (by decide) rfl rfl rfl rfl jok51 (Nat.le_of_ble_eq_true rfl) (fun v65 m65 h65 => ?_)
            obtain ⟨rfl, e65⟩ := h65
            obtain rfl := e65.symm
            refine g_if_eq hF (tgt := 73) (by decide +kernel : decode cX5_merge 68 = .ok (.ifCond .eq 5, 3)) (by decide) (by omega) (fun c68 => ?_) (fun c68 => ?_)
            · skip
              exact absurd c68 (by decide)
            · skip
              refine g_iconst hF (by decide +kernel : decode cX5_merge 71 = .ok (.iconst 0, 1)) ?_
              refine g_ireturn hF hQ (by decide +kernel : decode cX5_merge 72 = .ok (.ireturn, 1)) ?_
              exact ⟨rfl, rfl⟩
      · skip
        refine g_iconst hF (by decide +kernel : decode cX5_merge 21 = .ok (.iconst 1, 1)) ?_
        refine g_goto hF (tgt := 26) (by decide +kernel : decode cX5_merge 22 = .ok (.goto 4, 3)) (by decide) ?_
        refine g_istore hF (by decide +kernel : decode cX5_merge 26 = .ok (.istore 5, 2)) (by decide) ?_
        refine g_aload_n hF (by decide +kernel : decode cX5_merge 28 = .ok (.aload_n 0, 1)) rfl ?_
        refine g_aload_n hF (by decide +kernel : decode cX5_merge 29 = .ok (.aload_n 0, 1)) rfl ?_
        refine g_iload_n hF (by decide +kernel : decode cX5_merge 30 = .ok (.iload_n 1, 1)) rfl ?_
        refine g_iload_n hF (by decide +kernel : decode cX5_merge 31 = .ok (.iload_n 2, 1)) rfl ?_
        refine g_iload_n hF (by decide +kernel : decode cX5_merge 32 = .ok (.iload_n 3, 1)) rfl ?_
        refine g_iconst hF (by decide +kernel : decode cX5_merge 33 = .ok (.iconst 0, 1)) ?_
        rcases Classical.em (num k ∧ num v) with s34 | s34
        · skip
          refine g_callV hF lkX5_49 (y_X5_no X hX _ (by omega) _ _ _ (by omega) (by omega) (by omega) ⟨s34.1, s34.2, by unfold num; omega⟩ _) (by decide +kernel : decode cX5_merge 34 = .ok (.invokevirtual 49, 3)) (by decide) rfl rfl rfl rfl jok51 (Nat.le_of_ble_eq_true rfl) (fun v34 m34 h34 => ?_)
          obtain ⟨rfl, e34⟩ := h34
          obtain rfl := e34.symm
          refine g_if_le hF (tgt := 51) (by decide +kernel : decode cX5_merge 37 = .ok (.ifCond .le 14, 3)) (by decide) (by omega) (fun c37 => ?_) (fun c37 => ?_)
          · skip
            refine g_iload hF (by decide +kernel : decode cX5_merge 51 = .ok (.iload 5, 2)) rfl ?_
            refine g_if_eq hF (tgt := 60) (by decide +kernel : decode cX5_merge 53 = .ok (.ifCond .eq 7, 3)) (by decide) (by omega) (fun c53 => ?_) (fun c53 => ?_)
            · skip
              exact absurd c53 (by decide)
            · skip
              refine g_iload_n hF (by decide +kernel : decode cX5_merge 56 = .ok (.iload_n 3, 1)) rfl ?_
              refine g_if_ge hF (tgt := 64) (by decide +kernel : decode cX5_merge 57 = .ok (.ifCond .ge 7, 3)) (by decide) (by omega) (fun c57 => ?_) (fun c57 => ?_)
              · skip
                have q1 := s34.2
                unfold num at q1
                exact absurd ⟨s34.1, ⟨by omega, by omega⟩, by show wayM h0; omega⟩ h
              · skip
                refine g_iconst hF (by decide +kernel : decode cX5_merge 60 = .ok (.iconst 2, 1)) ?_
                refine g_goto hF (tgt := 65) (by decide +kernel : decode cX5_merge 61 = .ok (.goto 4, 3)) (by decide) ?_
                refine g_callV hF lkX5_53 (n_X5_fails X hX _ (by decide) _) (by decide +kernel : decode cX5_merge 65 = .ok (.invokevirtual 53, 3)) (by decide) rfl rfl rfl rfl jok51 (Nat.le_of_ble_eq_true rfl) (fun v65 m65 h65 => ?_)
                obtain ⟨rfl, e65⟩ := h65
                obtain rfl := e65.symm
                refine g_if_eq hF (tgt := 73) (by decide +kernel : decode cX5_merge 68 = .ok (.ifCond .eq 5, 3)) (by decide) (by omega) (fun c68 => ?_) (fun c68 => ?_)
                · skip
                  exact absurd c68 (by decide)
                · skip
                  refine g_iconst hF (by decide +kernel : decode cX5_merge 71 = .ok (.iconst 0, 1)) ?_
                  refine g_ireturn hF hQ (by decide +kernel : decode cX5_merge 72 = .ok (.ireturn, 1)) ?_
                  exact ⟨rfl, rfl⟩
          · skip
            exact absurd c37 (by decide)
        · skip
          refine g_callV hF lkX5_49 (n2_X5_no X hX _ (by omega) _ _ _ (by omega) (by omega) (by omega) (fun q => s34 ⟨q.1, q.2.1⟩) _) (by decide +kernel : decode cX5_merge 34 = .ok (.invokevirtual 49, 3)) (by decide) rfl rfl rfl rfl jok51 (Nat.le_of_ble_eq_true rfl) (fun v34 m34 h34 => ?_)
          obtain ⟨rfl, e34⟩ := h34
          obtain rfl := e34.symm
          refine g_if_le hF (tgt := 51) (by decide +kernel : decode cX5_merge 37 = .ok (.ifCond .le 14, 3)) (by decide) (by omega) (fun c37 => ?_) (fun c37 => ?_)
          · skip
            exact absurd c37 (by decide)
          · skip
            refine g_aload_n hF (by decide +kernel : decode cX5_merge 40 = .ok (.aload_n 0, 1)) rfl ?_
            refine g_iload_n hF (by decide +kernel : decode cX5_merge 41 = .ok (.iload_n 1, 1)) rfl ?_
            refine g_iload_n hF (by decide +kernel : decode cX5_merge 42 = .ok (.iload_n 2, 1)) rfl ?_
            refine g_iload_n hF (by decide +kernel : decode cX5_merge 43 = .ok (.iload_n 3, 1)) rfl ?_
            refine g_iconst hF (by decide +kernel : decode cX5_merge 44 = .ok (.iconst 0, 1)) ?_
            refine g_callV hF lkX5_49 (n2_X5_no X hX _ (by omega) _ _ _ (by omega) (by omega) (by omega) (fun q => s34 ⟨q.1, q.2.1⟩) _) (by decide +kernel : decode cX5_merge 45 = .ok (.invokevirtual 49, 3)) (by decide) rfl rfl rfl rfl jok51 (Nat.le_of_ble_eq_true rfl) (fun v45 m45 h45 => ?_)
            obtain ⟨rfl, e45⟩ := h45
            obtain rfl := e45.symm
            refine g_goto hF (tgt := 65) (by decide +kernel : decode cX5_merge 48 = .ok (.goto 17, 3)) (by decide) ?_
            refine g_callV hF lkX5_53 (n_X5_fails X hX _ (by decide) _) (by decide +kernel : decode cX5_merge 65 = .ok (.invokevirtual 53, 3)) (by decide) rfl rfl rfl rfl jok51 (Nat.le_of_ble_eq_true rfl) (fun v65 m65 h65 => ?_)
            obtain ⟨rfl, e65⟩ := h65
            obtain rfl := e65.symm
            refine g_if_eq hF (tgt := 73) (by decide +kernel : decode cX5_merge 68 = .ok (.ifCond .eq 5, 3)) (by decide) (by omega) (fun c68 => ?_) (fun c68 => ?_)
            · skip
              exact absurd c68 (by decide)
            · skip
              refine g_iconst hF (by decide +kernel : decode cX5_merge 71 = .ok (.iconst 0, 1)) ?_
              refine g_ireturn hF hQ (by decide +kernel : decode cX5_merge 72 = .ok (.ireturn, 1)) ?_
              exact ⟨rfl, rfl⟩
set_option maxHeartbeats 4000000 in
set_option maxRecDepth 100000 in
theorem ya_X5_compute (X : jX) (hX : jxok X) (s : Nat) (hs : s < 8) (k : Int) (hk : num k) (m : jM) (hI : MI m) : Con X yX5_compute cX5_compute 7 (some .int) 8 [vR 2 51, vI s, vI k, vI 105] m (fun o m' => o = some (vI (computeV (tat (mR m s) k) k 105)) ∧ MW (mset m 51 2 0) s (fmark (mR m s) k (computeV (tat (mR m s) k) k 105)) m') := by
  refine Con.of hX (by decide) (Nat.le_of_ble_eq_true rfl) (fun F hF hQ => ?_)
  have hr := hI.1 s hs
  have hk2 : -1 ≤ k ∧ k ≤ 255 := hk
  refine g_iload_n hF (by decide +kernel : decode cX5_compute 0 = .ok (.iload_n 3, 1)) rfl ?_
  refine g_bipush hF (by decide +kernel : decode cX5_compute 1 = .ok (.bipush 105, 2)) (by decide) ?_
  refine g_icmp_eq hF (tgt := 24) (by decide +kernel : decode cX5_compute 3 = .ok (.if_icmp .eq 21, 3)) (by decide) (by omega) (by omega) (fun c3 => ?_) (fun c3 => ?_)
  · skip
    refine g_iconst hF (by decide +kernel : decode cX5_compute 24 = .ok (.iconst 1, 1)) ?_
    refine g_goto hF (tgt := 29) (by decide +kernel : decode cX5_compute 25 = .ok (.goto 4, 3)) (by decide) ?_
    refine g_istore hF (by decide +kernel : decode cX5_compute 29 = .ok (.istore 4, 2)) (by decide) ?_
    refine g_aload_n hF (by decide +kernel : decode cX5_compute 31 = .ok (.aload_n 0, 1)) rfl ?_
    refine g_aload_n hF (by decide +kernel : decode cX5_compute 32 = .ok (.aload_n 0, 1)) rfl ?_
    refine g_iload_n hF (by decide +kernel : decode cX5_compute 33 = .ok (.iload_n 1, 1)) rfl ?_
    refine g_iload_n hF (by decide +kernel : decode cX5_compute 34 = .ok (.iload_n 2, 1)) rfl ?_
    refine g_iconst hF (by decide +kernel : decode cX5_compute 35 = .ok (.iconst 0, 1)) ?_
    refine g_iconst hF (by decide +kernel : decode cX5_compute 36 = .ok (.iconst 0, 1)) ?_
    refine g_callV hF lkX5_49 (y_X5_no X hX _ (by omega) _ _ _ (by omega) (by omega) (by omega) (by unfold num; omega) _) (by decide +kernel : decode cX5_compute 37 = .ok (.invokevirtual 49, 3)) (by decide) rfl rfl rfl rfl jok51 (Nat.le_of_ble_eq_true rfl) (fun v37 m37 h37 => ?_)
    obtain ⟨rfl, e37⟩ := h37
    obtain rfl := e37.symm
    refine g_if_le hF (tgt := 54) (by decide +kernel : decode cX5_compute 40 = .ok (.ifCond .le 14, 3)) (by decide) (by omega) (fun c40 => ?_) (fun c40 => ?_)
    · skip
      refine g_iload hF (by decide +kernel : decode cX5_compute 54 = .ok (.iload 4, 2)) rfl ?_
      refine g_if_eq hF (tgt := 63) (by decide +kernel : decode cX5_compute 56 = .ok (.ifCond .eq 7, 3)) (by decide) (by omega) (fun c56 => ?_) (fun c56 => ?_)
      · skip
        exact absurd c56 (by decide)
      · skip
        refine g_iconst hF (by decide +kernel : decode cX5_compute 59 = .ok (.iconst 0, 1)) ?_
        refine g_goto hF (tgt := 64) (by decide +kernel : decode cX5_compute 60 = .ok (.goto 4, 3)) (by decide) ?_
        refine g_callV hF lkX5_53 (y_X5_fails X hX _) (by decide +kernel : decode cX5_compute 64 = .ok (.invokevirtual 53, 3)) (by decide) rfl rfl rfl rfl jok51 (Nat.le_of_ble_eq_true rfl) (fun v64 m64 h64 => ?_)
        obtain ⟨rfl, e64⟩ := h64
        have S0 : MSm m m64 := by rw [e64]; exact MSm_code m (Or.inl rfl) 0
        have I0 := MI_S hI S0
        have z0 : m64 51 2 = 0 := by rw [e64, mset_at]
        have r0 : ∀ t : Nat, mR m64 t = mR m t := fun t => mR_52 (S0.1 52 (by decide) (by decide) (by decide)) t
        refine g_if_eq hF (tgt := 72) (by decide +kernel : decode cX5_compute 67 = .ok (.ifCond .eq 5, 3)) (by decide) (by omega) (fun c67 => ?_) (fun c67 => ?_)
        · skip
          refine g_aload_n hF (by decide +kernel : decode cX5_compute 72 = .ok (.aload_n 0, 1)) rfl ?_
          refine g_iload_n hF (by decide +kernel : decode cX5_compute 73 = .ok (.iload_n 1, 1)) rfl ?_
          refine g_callV hF lkX5_56 (c_X5_keeps X hX _ (by omega) _ (by assumption)) (by decide +kernel : decode cX5_compute 74 = .ok (.invokevirtual 56, 3)) (by decide) rfl rfl rfl rfl jok51 (Nat.le_of_ble_eq_true rfl) (fun v74 m74 h74 => ?_)
          obtain ⟨rfl, k74⟩ := h74
          have I1 := MI_keep hs I0 k74
          have rk : mR m74 s = mR m s := by rw [mR_52 (m_52 k74), r0]
          refine g_aload_n hF (by decide +kernel : decode cX5_compute 77 = .ok (.aload_n 0, 1)) rfl ?_
          refine g_iload_n hF (by decide +kernel : decode cX5_compute 78 = .ok (.iload_n 1, 1)) rfl ?_
          refine g_iload_n hF (by decide +kernel : decode cX5_compute 79 = .ok (.iload_n 2, 1)) rfl ?_
          refine g_callV hF lkX5_60 (c_X5_at X hX _ (by omega) _ (show num _ from ⟨by omega, by omega⟩) _) (by decide +kernel : decode cX5_compute 80 = .ok (.invokevirtual 60, 3)) (by decide) rfl rfl rfl rfl jok51 (Nat.le_of_ble_eq_true rfl) (fun v80 m80 h80 => ?_)
          obtain ⟨rfl, e80⟩ := h80
          obtain rfl := e80.symm
          rw [show mR m74 s (k + 1) = tat (mR m s) k by rw [rk, tat_in hk2]]
          have hb := tat_b hr k
          have j199 : ∀ (x a : Int), x = computeV (tat (mR m s) k) k 105 → jG F X m74 199 [(0, vR 2 51), (1, vI s), (2, vI k), (3, vI 105), (4, vI 1), (5, vI a), (6, vI x)] [] := by
            intro x a hx
            refine g_aload_n hF (by decide +kernel : decode cX5_compute 199 = .ok (.aload_n 0, 1)) rfl ?_
            refine g_iload_n hF (by decide +kernel : decode cX5_compute 200 = .ok (.iload_n 1, 1)) rfl ?_
            refine g_iload_n hF (by decide +kernel : decode cX5_compute 201 = .ok (.iload_n 2, 1)) rfl ?_
            refine g_iload hF (by decide +kernel : decode cX5_compute 202 = .ok (.iload 6, 2)) rfl ?_
            refine g_callV hF lkX5_64 (c_X5_sets X hX _ (by omega) _ _ (show num _ from ⟨by omega, by omega⟩) _) (by decide +kernel : decode cX5_compute 204 = .ok (.invokevirtual 64, 3)) (by decide) rfl rfl rfl rfl jok51 (Nat.le_of_ble_eq_true rfl) (fun v204 m204 h204 => ?_)
            obtain ⟨rfl, e204⟩ := h204
            have cw : MW m64 s (fmark (mR m s) k x) m204 := by rw [← rk]; exact MW_of k74 e204
            refine g_iload hF (by decide +kernel : decode cX5_compute 207 = .ok (.iload 6, 2)) rfl ?_
            refine g_ireturn hF hQ (by decide +kernel : decode cX5_compute 209 = .ok (.ireturn, 1)) ?_
            exact ⟨by rw [hx], by rw [← e64, ← hx]; exact cw⟩
          refine g_istore hF (by decide +kernel : decode cX5_compute 83 = .ok (.istore 5, 2)) (by decide) ?_
          refine g_iload hF (by decide +kernel : decode cX5_compute 85 = .ok (.iload 5, 2)) rfl ?_
          refine g_istore hF (by decide +kernel : decode cX5_compute 87 = .ok (.istore 6, 2)) (by decide) ?_
          refine g_iload_n hF (by decide +kernel : decode cX5_compute 89 = .ok (.iload_n 3, 1)) rfl ?_
          refine g_bipush hF (by decide +kernel : decode cX5_compute 90 = .ok (.bipush 105, 2)) (by decide) ?_
          refine g_icmp_ne hF (tgt := 114) (by decide +kernel : decode cX5_compute 92 = .ok (.if_icmp .ne 22, 3)) (by decide) (by omega) (by omega) (fun c92 => ?_) (fun c92 => ?_)
          · skip
            exact absurd c92 (by decide)
          · skip
            refine g_iload hF (by decide +kernel : decode cX5_compute 95 = .ok (.iload 5, 2)) rfl ?_
            refine g_if_ge hF (tgt := 104) (by decide +kernel : decode cX5_compute 97 = .ok (.ifCond .ge 7, 3)) (by decide) (by omega) (fun c97 => ?_) (fun c97 => ?_)
            · skip
              refine g_iload hF (by decide +kernel : decode cX5_compute 104 = .ok (.iload 5, 2)) rfl ?_
              refine g_iconst hF (by decide +kernel : decode cX5_compute 106 = .ok (.iconst 1, 1)) ?_
              refine g_iadd hF (by decide +kernel : decode cX5_compute 107 = .ok (.iadd, 1)) ?_
              refine g_sipush hF (by decide +kernel : decode cX5_compute 108 = .ok (.sipush 256, 3)) (by decide) ?_
              refine g_irem hF (by decide +kernel : decode cX5_compute 111 = .ok (.irem, 1)) (by omega) (by omega) ?_
              refine g_istore hF (by decide +kernel : decode cX5_compute 112 = .ok (.istore 6, 2)) (by decide) ?_
              refine g_iload_n hF (by decide +kernel : decode cX5_compute 114 = .ok (.iload_n 3, 1)) rfl ?_
              refine g_bipush hF (by decide +kernel : decode cX5_compute 115 = .ok (.bipush 100, 2)) (by decide) ?_
              refine g_icmp_ne hF (tgt := 136) (by decide +kernel : decode cX5_compute 117 = .ok (.if_icmp .ne 19, 3)) (by decide) (by omega) (by omega) (fun c117 => ?_) (fun c117 => ?_)
              · skip
                refine g_iload_n hF (by decide +kernel : decode cX5_compute 136 = .ok (.iload_n 3, 1)) rfl ?_
                refine g_bipush hF (by decide +kernel : decode cX5_compute 137 = .ok (.bipush 102, 2)) (by decide) ?_
                refine g_icmp_ne hF (tgt := 163) (by decide +kernel : decode cX5_compute 139 = .ok (.if_icmp .ne 24, 3)) (by decide) (by omega) (by omega) (fun c139 => ?_) (fun c139 => ?_)
                · skip
                  refine g_iload_n hF (by decide +kernel : decode cX5_compute 163 = .ok (.iload_n 3, 1)) rfl ?_
                  refine g_bipush hF (by decide +kernel : decode cX5_compute 164 = .ok (.bipush 112, 2)) (by decide) ?_
                  refine g_icmp_ne hF (tgt := 199) (by decide +kernel : decode cX5_compute 166 = .ok (.if_icmp .ne 33, 3)) (by decide) (by omega) (by omega) (fun c166 => ?_) (fun c166 => ?_)
                  · skip
                    exact j199 _ _ (by unfold computeV; first | (rw [if_pos rfl, if_pos (by omega)]; done) | (rw [if_pos rfl, if_neg (by omega)]; exact wr_mod (by omega)) | (rw [if_neg (by decide), if_pos rfl, if_pos (by omega)]; done) | (rw [if_neg (by decide), if_pos rfl, if_neg (by omega)]; done) | (rw [if_neg (by decide), if_neg (by decide), if_pos rfl, if_neg (by omega)]; done) | (rw [if_neg (by decide), if_neg (by decide), if_pos rfl, if_pos (by omega)]; unfold mx0; rw [if_pos (by omega)]; done) | (rw [if_neg (by decide), if_neg (by decide), if_pos rfl, if_pos (by omega)]; unfold mx0; rw [if_neg (by omega)]; done) | (rw [if_neg (by decide), if_neg (by decide), if_neg (by decide)]; unfold doubledV; rw [if_pos (by omega)]; done) | (rw [if_neg (by decide), if_neg (by decide), if_neg (by decide)]; unfold doubledV; rw [if_neg (by omega), if_pos (by omega)]; done) | (rw [if_neg (by decide), if_neg (by decide), if_neg (by decide)]; unfold doubledV; rw [if_neg (by omega), if_neg (by omega)]; exact wr_mod (by omega)))
                  · skip
                    exact absurd c166 (by decide)
                · skip
                  exact absurd c139 (by decide)
              · skip
                exact absurd c117 (by decide)
            · skip
              refine g_iconst hF (by decide +kernel : decode cX5_compute 100 = .ok (.iconst 0, 1)) ?_
              refine g_goto hF (tgt := 112) (by decide +kernel : decode cX5_compute 101 = .ok (.goto 11, 3)) (by decide) ?_
              refine g_istore hF (by decide +kernel : decode cX5_compute 112 = .ok (.istore 6, 2)) (by decide) ?_
              refine g_iload_n hF (by decide +kernel : decode cX5_compute 114 = .ok (.iload_n 3, 1)) rfl ?_
              refine g_bipush hF (by decide +kernel : decode cX5_compute 115 = .ok (.bipush 100, 2)) (by decide) ?_
              refine g_icmp_ne hF (tgt := 136) (by decide +kernel : decode cX5_compute 117 = .ok (.if_icmp .ne 19, 3)) (by decide) (by omega) (by omega) (fun c117 => ?_) (fun c117 => ?_)
              · skip
                refine g_iload_n hF (by decide +kernel : decode cX5_compute 136 = .ok (.iload_n 3, 1)) rfl ?_
                refine g_bipush hF (by decide +kernel : decode cX5_compute 137 = .ok (.bipush 102, 2)) (by decide) ?_
                refine g_icmp_ne hF (tgt := 163) (by decide +kernel : decode cX5_compute 139 = .ok (.if_icmp .ne 24, 3)) (by decide) (by omega) (by omega) (fun c139 => ?_) (fun c139 => ?_)
                · skip
                  refine g_iload_n hF (by decide +kernel : decode cX5_compute 163 = .ok (.iload_n 3, 1)) rfl ?_
                  refine g_bipush hF (by decide +kernel : decode cX5_compute 164 = .ok (.bipush 112, 2)) (by decide) ?_
                  refine g_icmp_ne hF (tgt := 199) (by decide +kernel : decode cX5_compute 166 = .ok (.if_icmp .ne 33, 3)) (by decide) (by omega) (by omega) (fun c166 => ?_) (fun c166 => ?_)
                  · skip
                    exact j199 _ _ (by unfold computeV; first | (rw [if_pos rfl, if_pos (by omega)]; done) | (rw [if_pos rfl, if_neg (by omega)]; exact wr_mod (by omega)) | (rw [if_neg (by decide), if_pos rfl, if_pos (by omega)]; done) | (rw [if_neg (by decide), if_pos rfl, if_neg (by omega)]; done) | (rw [if_neg (by decide), if_neg (by decide), if_pos rfl, if_neg (by omega)]; done) | (rw [if_neg (by decide), if_neg (by decide), if_pos rfl, if_pos (by omega)]; unfold mx0; rw [if_pos (by omega)]; done) | (rw [if_neg (by decide), if_neg (by decide), if_pos rfl, if_pos (by omega)]; unfold mx0; rw [if_neg (by omega)]; done) | (rw [if_neg (by decide), if_neg (by decide), if_neg (by decide)]; unfold doubledV; rw [if_pos (by omega)]; done) | (rw [if_neg (by decide), if_neg (by decide), if_neg (by decide)]; unfold doubledV; rw [if_neg (by omega), if_pos (by omega)]; done) | (rw [if_neg (by decide), if_neg (by decide), if_neg (by decide)]; unfold doubledV; rw [if_neg (by omega), if_neg (by omega)]; exact wr_mod (by omega)))
                  · skip
                    exact absurd c166 (by decide)
                · skip
                  exact absurd c139 (by decide)
              · skip
                exact absurd c117 (by decide)
        · skip
          exact absurd c67 (by decide)
    · skip
      exact absurd c40 (by decide)
  · skip
    exact absurd c3 (by decide)
set_option maxHeartbeats 4000000 in
set_option maxRecDepth 100000 in
theorem yb_X5_compute (X : jX) (hX : jxok X) (s : Nat) (hs : s < 8) (k : Int) (hk : num k) (m : jM) (hI : MI m) : Con X yX5_compute cX5_compute 7 (some .int) 8 [vR 2 51, vI s, vI k, vI 100] m (fun o m' => o = some (vI (computeV (tat (mR m s) k) k 100)) ∧ MW (mset m 51 2 0) s (fmark (mR m s) k (computeV (tat (mR m s) k) k 100)) m') := by
  refine Con.of hX (by decide) (Nat.le_of_ble_eq_true rfl) (fun F hF hQ => ?_)
  have hr := hI.1 s hs
  have hk2 : -1 ≤ k ∧ k ≤ 255 := hk
  refine g_iload_n hF (by decide +kernel : decode cX5_compute 0 = .ok (.iload_n 3, 1)) rfl ?_
  refine g_bipush hF (by decide +kernel : decode cX5_compute 1 = .ok (.bipush 105, 2)) (by decide) ?_
  refine g_icmp_eq hF (tgt := 24) (by decide +kernel : decode cX5_compute 3 = .ok (.if_icmp .eq 21, 3)) (by decide) (by omega) (by omega) (fun c3 => ?_) (fun c3 => ?_)
  · skip
    exact absurd c3 (by decide)
  · skip
    refine g_iload_n hF (by decide +kernel : decode cX5_compute 6 = .ok (.iload_n 3, 1)) rfl ?_
    refine g_bipush hF (by decide +kernel : decode cX5_compute 7 = .ok (.bipush 100, 2)) (by decide) ?_
    refine g_icmp_eq hF (tgt := 24) (by decide +kernel : decode cX5_compute 9 = .ok (.if_icmp .eq 15, 3)) (by decide) (by omega) (by omega) (fun c9 => ?_) (fun c9 => ?_)
    · skip
      refine g_iconst hF (by decide +kernel : decode cX5_compute 24 = .ok (.iconst 1, 1)) ?_
      refine g_goto hF (tgt := 29) (by decide +kernel : decode cX5_compute 25 = .ok (.goto 4, 3)) (by decide) ?_
      refine g_istore hF (by decide +kernel : decode cX5_compute 29 = .ok (.istore 4, 2)) (by decide) ?_
      refine g_aload_n hF (by decide +kernel : decode cX5_compute 31 = .ok (.aload_n 0, 1)) rfl ?_
      refine g_aload_n hF (by decide +kernel : decode cX5_compute 32 = .ok (.aload_n 0, 1)) rfl ?_
      refine g_iload_n hF (by decide +kernel : decode cX5_compute 33 = .ok (.iload_n 1, 1)) rfl ?_
      refine g_iload_n hF (by decide +kernel : decode cX5_compute 34 = .ok (.iload_n 2, 1)) rfl ?_
      refine g_iconst hF (by decide +kernel : decode cX5_compute 35 = .ok (.iconst 0, 1)) ?_
      refine g_iconst hF (by decide +kernel : decode cX5_compute 36 = .ok (.iconst 0, 1)) ?_
      refine g_callV hF lkX5_49 (y_X5_no X hX _ (by omega) _ _ _ (by omega) (by omega) (by omega) (by unfold num; omega) _) (by decide +kernel : decode cX5_compute 37 = .ok (.invokevirtual 49, 3)) (by decide) rfl rfl rfl rfl jok51 (Nat.le_of_ble_eq_true rfl) (fun v37 m37 h37 => ?_)
      obtain ⟨rfl, e37⟩ := h37
      obtain rfl := e37.symm
      refine g_if_le hF (tgt := 54) (by decide +kernel : decode cX5_compute 40 = .ok (.ifCond .le 14, 3)) (by decide) (by omega) (fun c40 => ?_) (fun c40 => ?_)
      · skip
        refine g_iload hF (by decide +kernel : decode cX5_compute 54 = .ok (.iload 4, 2)) rfl ?_
        refine g_if_eq hF (tgt := 63) (by decide +kernel : decode cX5_compute 56 = .ok (.ifCond .eq 7, 3)) (by decide) (by omega) (fun c56 => ?_) (fun c56 => ?_)
        · skip
          exact absurd c56 (by decide)
        · skip
          refine g_iconst hF (by decide +kernel : decode cX5_compute 59 = .ok (.iconst 0, 1)) ?_
          refine g_goto hF (tgt := 64) (by decide +kernel : decode cX5_compute 60 = .ok (.goto 4, 3)) (by decide) ?_
          refine g_callV hF lkX5_53 (y_X5_fails X hX _) (by decide +kernel : decode cX5_compute 64 = .ok (.invokevirtual 53, 3)) (by decide) rfl rfl rfl rfl jok51 (Nat.le_of_ble_eq_true rfl) (fun v64 m64 h64 => ?_)
          obtain ⟨rfl, e64⟩ := h64
          have S0 : MSm m m64 := by rw [e64]; exact MSm_code m (Or.inl rfl) 0
          have I0 := MI_S hI S0
          have z0 : m64 51 2 = 0 := by rw [e64, mset_at]
          have r0 : ∀ t : Nat, mR m64 t = mR m t := fun t => mR_52 (S0.1 52 (by decide) (by decide) (by decide)) t
          refine g_if_eq hF (tgt := 72) (by decide +kernel : decode cX5_compute 67 = .ok (.ifCond .eq 5, 3)) (by decide) (by omega) (fun c67 => ?_) (fun c67 => ?_)
          · skip
            refine g_aload_n hF (by decide +kernel : decode cX5_compute 72 = .ok (.aload_n 0, 1)) rfl ?_
            refine g_iload_n hF (by decide +kernel : decode cX5_compute 73 = .ok (.iload_n 1, 1)) rfl ?_
            refine g_callV hF lkX5_56 (c_X5_keeps X hX _ (by omega) _ (by assumption)) (by decide +kernel : decode cX5_compute 74 = .ok (.invokevirtual 56, 3)) (by decide) rfl rfl rfl rfl jok51 (Nat.le_of_ble_eq_true rfl) (fun v74 m74 h74 => ?_)
            obtain ⟨rfl, k74⟩ := h74
            have I1 := MI_keep hs I0 k74
            have rk : mR m74 s = mR m s := by rw [mR_52 (m_52 k74), r0]
            refine g_aload_n hF (by decide +kernel : decode cX5_compute 77 = .ok (.aload_n 0, 1)) rfl ?_
            refine g_iload_n hF (by decide +kernel : decode cX5_compute 78 = .ok (.iload_n 1, 1)) rfl ?_
            refine g_iload_n hF (by decide +kernel : decode cX5_compute 79 = .ok (.iload_n 2, 1)) rfl ?_
            refine g_callV hF lkX5_60 (c_X5_at X hX _ (by omega) _ (show num _ from ⟨by omega, by omega⟩) _) (by decide +kernel : decode cX5_compute 80 = .ok (.invokevirtual 60, 3)) (by decide) rfl rfl rfl rfl jok51 (Nat.le_of_ble_eq_true rfl) (fun v80 m80 h80 => ?_)
            obtain ⟨rfl, e80⟩ := h80
            obtain rfl := e80.symm
            rw [show mR m74 s (k + 1) = tat (mR m s) k by rw [rk, tat_in hk2]]
            have hb := tat_b hr k
            have j199 : ∀ (x a : Int), x = computeV (tat (mR m s) k) k 100 → jG F X m74 199 [(0, vR 2 51), (1, vI s), (2, vI k), (3, vI 100), (4, vI 1), (5, vI a), (6, vI x)] [] := by
              intro x a hx
              refine g_aload_n hF (by decide +kernel : decode cX5_compute 199 = .ok (.aload_n 0, 1)) rfl ?_
              refine g_iload_n hF (by decide +kernel : decode cX5_compute 200 = .ok (.iload_n 1, 1)) rfl ?_
              refine g_iload_n hF (by decide +kernel : decode cX5_compute 201 = .ok (.iload_n 2, 1)) rfl ?_
              refine g_iload hF (by decide +kernel : decode cX5_compute 202 = .ok (.iload 6, 2)) rfl ?_
              refine g_callV hF lkX5_64 (c_X5_sets X hX _ (by omega) _ _ (show num _ from ⟨by omega, by omega⟩) _) (by decide +kernel : decode cX5_compute 204 = .ok (.invokevirtual 64, 3)) (by decide) rfl rfl rfl rfl jok51 (Nat.le_of_ble_eq_true rfl) (fun v204 m204 h204 => ?_)
              obtain ⟨rfl, e204⟩ := h204
              have cw : MW m64 s (fmark (mR m s) k x) m204 := by rw [← rk]; exact MW_of k74 e204
              refine g_iload hF (by decide +kernel : decode cX5_compute 207 = .ok (.iload 6, 2)) rfl ?_
              refine g_ireturn hF hQ (by decide +kernel : decode cX5_compute 209 = .ok (.ireturn, 1)) ?_
              exact ⟨by rw [hx], by rw [← e64, ← hx]; exact cw⟩
            refine g_istore hF (by decide +kernel : decode cX5_compute 83 = .ok (.istore 5, 2)) (by decide) ?_
            refine g_iload hF (by decide +kernel : decode cX5_compute 85 = .ok (.iload 5, 2)) rfl ?_
            refine g_istore hF (by decide +kernel : decode cX5_compute 87 = .ok (.istore 6, 2)) (by decide) ?_
            refine g_iload_n hF (by decide +kernel : decode cX5_compute 89 = .ok (.iload_n 3, 1)) rfl ?_
            refine g_bipush hF (by decide +kernel : decode cX5_compute 90 = .ok (.bipush 105, 2)) (by decide) ?_
            refine g_icmp_ne hF (tgt := 114) (by decide +kernel : decode cX5_compute 92 = .ok (.if_icmp .ne 22, 3)) (by decide) (by omega) (by omega) (fun c92 => ?_) (fun c92 => ?_)
            · skip
              refine g_iload_n hF (by decide +kernel : decode cX5_compute 114 = .ok (.iload_n 3, 1)) rfl ?_
              refine g_bipush hF (by decide +kernel : decode cX5_compute 115 = .ok (.bipush 100, 2)) (by decide) ?_
              refine g_icmp_ne hF (tgt := 136) (by decide +kernel : decode cX5_compute 117 = .ok (.if_icmp .ne 19, 3)) (by decide) (by omega) (by omega) (fun c117 => ?_) (fun c117 => ?_)
              · skip
                exact absurd c117 (by decide)
              · skip
                refine g_iload hF (by decide +kernel : decode cX5_compute 120 = .ok (.iload 5, 2)) rfl ?_
                refine g_if_gt hF (tgt := 130) (by decide +kernel : decode cX5_compute 122 = .ok (.ifCond .gt 8, 3)) (by decide) (by omega) (fun c122 => ?_) (fun c122 => ?_)
                · skip
                  refine g_iload hF (by decide +kernel : decode cX5_compute 130 = .ok (.iload 5, 2)) rfl ?_
                  refine g_iconst hF (by decide +kernel : decode cX5_compute 132 = .ok (.iconst 1, 1)) ?_
                  refine g_isub hF (by decide +kernel : decode cX5_compute 133 = .ok (.isub, 1)) ?_
                  refine g_istore hF (by decide +kernel : decode cX5_compute 134 = .ok (.istore 6, 2)) (by decide) ?_
                  refine g_iload_n hF (by decide +kernel : decode cX5_compute 136 = .ok (.iload_n 3, 1)) rfl ?_
                  refine g_bipush hF (by decide +kernel : decode cX5_compute 137 = .ok (.bipush 102, 2)) (by decide) ?_
                  refine g_icmp_ne hF (tgt := 163) (by decide +kernel : decode cX5_compute 139 = .ok (.if_icmp .ne 24, 3)) (by decide) (by omega) (by omega) (fun c139 => ?_) (fun c139 => ?_)
                  · skip
                    refine g_iload_n hF (by decide +kernel : decode cX5_compute 163 = .ok (.iload_n 3, 1)) rfl ?_
                    refine g_bipush hF (by decide +kernel : decode cX5_compute 164 = .ok (.bipush 112, 2)) (by decide) ?_
                    refine g_icmp_ne hF (tgt := 199) (by decide +kernel : decode cX5_compute 166 = .ok (.if_icmp .ne 33, 3)) (by decide) (by omega) (by omega) (fun c166 => ?_) (fun c166 => ?_)
                    · skip
                      exact j199 _ _ (by unfold computeV; first | (rw [if_pos rfl, if_pos (by omega)]; done) | (rw [if_pos rfl, if_neg (by omega)]; exact wr_mod (by omega)) | (rw [if_neg (by decide), if_pos rfl, if_pos (by omega)]; done) | (rw [if_neg (by decide), if_pos rfl, if_neg (by omega)]; done) | (rw [if_neg (by decide), if_neg (by decide), if_pos rfl, if_neg (by omega)]; done) | (rw [if_neg (by decide), if_neg (by decide), if_pos rfl, if_pos (by omega)]; unfold mx0; rw [if_pos (by omega)]; done) | (rw [if_neg (by decide), if_neg (by decide), if_pos rfl, if_pos (by omega)]; unfold mx0; rw [if_neg (by omega)]; done) | (rw [if_neg (by decide), if_neg (by decide), if_neg (by decide)]; unfold doubledV; rw [if_pos (by omega)]; done) | (rw [if_neg (by decide), if_neg (by decide), if_neg (by decide)]; unfold doubledV; rw [if_neg (by omega), if_pos (by omega)]; done) | (rw [if_neg (by decide), if_neg (by decide), if_neg (by decide)]; unfold doubledV; rw [if_neg (by omega), if_neg (by omega)]; exact wr_mod (by omega)))
                    · skip
                      exact absurd c166 (by decide)
                  · skip
                    exact absurd c139 (by decide)
                · skip
                  refine g_bipush hF (by decide +kernel : decode cX5_compute 125 = .ok (.bipush (-2), 2)) (by decide) ?_
                  refine g_goto hF (tgt := 134) (by decide +kernel : decode cX5_compute 127 = .ok (.goto 7, 3)) (by decide) ?_
                  refine g_istore hF (by decide +kernel : decode cX5_compute 134 = .ok (.istore 6, 2)) (by decide) ?_
                  refine g_iload_n hF (by decide +kernel : decode cX5_compute 136 = .ok (.iload_n 3, 1)) rfl ?_
                  refine g_bipush hF (by decide +kernel : decode cX5_compute 137 = .ok (.bipush 102, 2)) (by decide) ?_
                  refine g_icmp_ne hF (tgt := 163) (by decide +kernel : decode cX5_compute 139 = .ok (.if_icmp .ne 24, 3)) (by decide) (by omega) (by omega) (fun c139 => ?_) (fun c139 => ?_)
                  · skip
                    refine g_iload_n hF (by decide +kernel : decode cX5_compute 163 = .ok (.iload_n 3, 1)) rfl ?_
                    refine g_bipush hF (by decide +kernel : decode cX5_compute 164 = .ok (.bipush 112, 2)) (by decide) ?_
                    refine g_icmp_ne hF (tgt := 199) (by decide +kernel : decode cX5_compute 166 = .ok (.if_icmp .ne 33, 3)) (by decide) (by omega) (by omega) (fun c166 => ?_) (fun c166 => ?_)
                    · skip
                      exact j199 _ _ (by unfold computeV; first | (rw [if_pos rfl, if_pos (by omega)]; done) | (rw [if_pos rfl, if_neg (by omega)]; exact wr_mod (by omega)) | (rw [if_neg (by decide), if_pos rfl, if_pos (by omega)]; done) | (rw [if_neg (by decide), if_pos rfl, if_neg (by omega)]; done) | (rw [if_neg (by decide), if_neg (by decide), if_pos rfl, if_neg (by omega)]; done) | (rw [if_neg (by decide), if_neg (by decide), if_pos rfl, if_pos (by omega)]; unfold mx0; rw [if_pos (by omega)]; done) | (rw [if_neg (by decide), if_neg (by decide), if_pos rfl, if_pos (by omega)]; unfold mx0; rw [if_neg (by omega)]; done) | (rw [if_neg (by decide), if_neg (by decide), if_neg (by decide)]; unfold doubledV; rw [if_pos (by omega)]; done) | (rw [if_neg (by decide), if_neg (by decide), if_neg (by decide)]; unfold doubledV; rw [if_neg (by omega), if_pos (by omega)]; done) | (rw [if_neg (by decide), if_neg (by decide), if_neg (by decide)]; unfold doubledV; rw [if_neg (by omega), if_neg (by omega)]; exact wr_mod (by omega)))
                    · skip
                      exact absurd c166 (by decide)
                  · skip
                    exact absurd c139 (by decide)
            · skip
              exact absurd c92 (by decide)
          · skip
            exact absurd c67 (by decide)
      · skip
        exact absurd c40 (by decide)
    · skip
      exact absurd c9 (by decide)
set_option maxHeartbeats 4000000 in
set_option maxRecDepth 100000 in
theorem yc_X5_compute (X : jX) (hX : jxok X) (s : Nat) (hs : s < 8) (k : Int) (hk : num k) (m : jM) (hI : MI m) : Con X yX5_compute cX5_compute 7 (some .int) 8 [vR 2 51, vI s, vI k, vI 102] m (fun o m' => o = some (vI (computeV (tat (mR m s) k) k 102)) ∧ MW (mset m 51 2 0) s (fmark (mR m s) k (computeV (tat (mR m s) k) k 102)) m') := by
  refine Con.of hX (by decide) (Nat.le_of_ble_eq_true rfl) (fun F hF hQ => ?_)
  have hr := hI.1 s hs
  have hk2 : -1 ≤ k ∧ k ≤ 255 := hk
  refine g_iload_n hF (by decide +kernel : decode cX5_compute 0 = .ok (.iload_n 3, 1)) rfl ?_
  refine g_bipush hF (by decide +kernel : decode cX5_compute 1 = .ok (.bipush 105, 2)) (by decide) ?_
  refine g_icmp_eq hF (tgt := 24) (by decide +kernel : decode cX5_compute 3 = .ok (.if_icmp .eq 21, 3)) (by decide) (by omega) (by omega) (fun c3 => ?_) (fun c3 => ?_)
  · skip
    exact absurd c3 (by decide)
  · skip
    refine g_iload_n hF (by decide +kernel : decode cX5_compute 6 = .ok (.iload_n 3, 1)) rfl ?_
    refine g_bipush hF (by decide +kernel : decode cX5_compute 7 = .ok (.bipush 100, 2)) (by decide) ?_
    refine g_icmp_eq hF (tgt := 24) (by decide +kernel : decode cX5_compute 9 = .ok (.if_icmp .eq 15, 3)) (by decide) (by omega) (by omega) (fun c9 => ?_) (fun c9 => ?_)
    · skip
      exact absurd c9 (by decide)
    · skip
      refine g_iload_n hF (by decide +kernel : decode cX5_compute 12 = .ok (.iload_n 3, 1)) rfl ?_
      refine g_bipush hF (by decide +kernel : decode cX5_compute 13 = .ok (.bipush 102, 2)) (by decide) ?_
      refine g_icmp_eq hF (tgt := 24) (by decide +kernel : decode cX5_compute 15 = .ok (.if_icmp .eq 9, 3)) (by decide) (by omega) (by omega) (fun c15 => ?_) (fun c15 => ?_)
      · skip
        refine g_iconst hF (by decide +kernel : decode cX5_compute 24 = .ok (.iconst 1, 1)) ?_
        refine g_goto hF (tgt := 29) (by decide +kernel : decode cX5_compute 25 = .ok (.goto 4, 3)) (by decide) ?_
        refine g_istore hF (by decide +kernel : decode cX5_compute 29 = .ok (.istore 4, 2)) (by decide) ?_
        refine g_aload_n hF (by decide +kernel : decode cX5_compute 31 = .ok (.aload_n 0, 1)) rfl ?_
        refine g_aload_n hF (by decide +kernel : decode cX5_compute 32 = .ok (.aload_n 0, 1)) rfl ?_
        refine g_iload_n hF (by decide +kernel : decode cX5_compute 33 = .ok (.iload_n 1, 1)) rfl ?_
        refine g_iload_n hF (by decide +kernel : decode cX5_compute 34 = .ok (.iload_n 2, 1)) rfl ?_
        refine g_iconst hF (by decide +kernel : decode cX5_compute 35 = .ok (.iconst 0, 1)) ?_
        refine g_iconst hF (by decide +kernel : decode cX5_compute 36 = .ok (.iconst 0, 1)) ?_
        refine g_callV hF lkX5_49 (y_X5_no X hX _ (by omega) _ _ _ (by omega) (by omega) (by omega) (by unfold num; omega) _) (by decide +kernel : decode cX5_compute 37 = .ok (.invokevirtual 49, 3)) (by decide) rfl rfl rfl rfl jok51 (Nat.le_of_ble_eq_true rfl) (fun v37 m37 h37 => ?_)
        obtain ⟨rfl, e37⟩ := h37
        obtain rfl := e37.symm
        refine g_if_le hF (tgt := 54) (by decide +kernel : decode cX5_compute 40 = .ok (.ifCond .le 14, 3)) (by decide) (by omega) (fun c40 => ?_) (fun c40 => ?_)
        · skip
          refine g_iload hF (by decide +kernel : decode cX5_compute 54 = .ok (.iload 4, 2)) rfl ?_
          refine g_if_eq hF (tgt := 63) (by decide +kernel : decode cX5_compute 56 = .ok (.ifCond .eq 7, 3)) (by decide) (by omega) (fun c56 => ?_) (fun c56 => ?_)
          · skip
            exact absurd c56 (by decide)
          · skip
            refine g_iconst hF (by decide +kernel : decode cX5_compute 59 = .ok (.iconst 0, 1)) ?_
            refine g_goto hF (tgt := 64) (by decide +kernel : decode cX5_compute 60 = .ok (.goto 4, 3)) (by decide) ?_
            refine g_callV hF lkX5_53 (y_X5_fails X hX _) (by decide +kernel : decode cX5_compute 64 = .ok (.invokevirtual 53, 3)) (by decide) rfl rfl rfl rfl jok51 (Nat.le_of_ble_eq_true rfl) (fun v64 m64 h64 => ?_)
            obtain ⟨rfl, e64⟩ := h64
            have S0 : MSm m m64 := by rw [e64]; exact MSm_code m (Or.inl rfl) 0
            have I0 := MI_S hI S0
            have z0 : m64 51 2 = 0 := by rw [e64, mset_at]
            have r0 : ∀ t : Nat, mR m64 t = mR m t := fun t => mR_52 (S0.1 52 (by decide) (by decide) (by decide)) t
            refine g_if_eq hF (tgt := 72) (by decide +kernel : decode cX5_compute 67 = .ok (.ifCond .eq 5, 3)) (by decide) (by omega) (fun c67 => ?_) (fun c67 => ?_)
            · skip
              refine g_aload_n hF (by decide +kernel : decode cX5_compute 72 = .ok (.aload_n 0, 1)) rfl ?_
              refine g_iload_n hF (by decide +kernel : decode cX5_compute 73 = .ok (.iload_n 1, 1)) rfl ?_
              refine g_callV hF lkX5_56 (c_X5_keeps X hX _ (by omega) _ (by assumption)) (by decide +kernel : decode cX5_compute 74 = .ok (.invokevirtual 56, 3)) (by decide) rfl rfl rfl rfl jok51 (Nat.le_of_ble_eq_true rfl) (fun v74 m74 h74 => ?_)
              obtain ⟨rfl, k74⟩ := h74
              have I1 := MI_keep hs I0 k74
              have rk : mR m74 s = mR m s := by rw [mR_52 (m_52 k74), r0]
              refine g_aload_n hF (by decide +kernel : decode cX5_compute 77 = .ok (.aload_n 0, 1)) rfl ?_
              refine g_iload_n hF (by decide +kernel : decode cX5_compute 78 = .ok (.iload_n 1, 1)) rfl ?_
              refine g_iload_n hF (by decide +kernel : decode cX5_compute 79 = .ok (.iload_n 2, 1)) rfl ?_
              refine g_callV hF lkX5_60 (c_X5_at X hX _ (by omega) _ (show num _ from ⟨by omega, by omega⟩) _) (by decide +kernel : decode cX5_compute 80 = .ok (.invokevirtual 60, 3)) (by decide) rfl rfl rfl rfl jok51 (Nat.le_of_ble_eq_true rfl) (fun v80 m80 h80 => ?_)
              obtain ⟨rfl, e80⟩ := h80
              obtain rfl := e80.symm
              rw [show mR m74 s (k + 1) = tat (mR m s) k by rw [rk, tat_in hk2]]
              have hb := tat_b hr k
              have j199 : ∀ (x a : Int), x = computeV (tat (mR m s) k) k 102 → jG F X m74 199 [(0, vR 2 51), (1, vI s), (2, vI k), (3, vI 102), (4, vI 1), (5, vI a), (6, vI x)] [] := by
                intro x a hx
                refine g_aload_n hF (by decide +kernel : decode cX5_compute 199 = .ok (.aload_n 0, 1)) rfl ?_
                refine g_iload_n hF (by decide +kernel : decode cX5_compute 200 = .ok (.iload_n 1, 1)) rfl ?_
                refine g_iload_n hF (by decide +kernel : decode cX5_compute 201 = .ok (.iload_n 2, 1)) rfl ?_
                refine g_iload hF (by decide +kernel : decode cX5_compute 202 = .ok (.iload 6, 2)) rfl ?_
                refine g_callV hF lkX5_64 (c_X5_sets X hX _ (by omega) _ _ (show num _ from ⟨by omega, by omega⟩) _) (by decide +kernel : decode cX5_compute 204 = .ok (.invokevirtual 64, 3)) (by decide) rfl rfl rfl rfl jok51 (Nat.le_of_ble_eq_true rfl) (fun v204 m204 h204 => ?_)
                obtain ⟨rfl, e204⟩ := h204
                have cw : MW m64 s (fmark (mR m s) k x) m204 := by rw [← rk]; exact MW_of k74 e204
                refine g_iload hF (by decide +kernel : decode cX5_compute 207 = .ok (.iload 6, 2)) rfl ?_
                refine g_ireturn hF hQ (by decide +kernel : decode cX5_compute 209 = .ok (.ireturn, 1)) ?_
                exact ⟨by rw [hx], by rw [← e64, ← hx]; exact cw⟩
              refine g_istore hF (by decide +kernel : decode cX5_compute 83 = .ok (.istore 5, 2)) (by decide) ?_
              refine g_iload hF (by decide +kernel : decode cX5_compute 85 = .ok (.iload 5, 2)) rfl ?_
              refine g_istore hF (by decide +kernel : decode cX5_compute 87 = .ok (.istore 6, 2)) (by decide) ?_
              refine g_iload_n hF (by decide +kernel : decode cX5_compute 89 = .ok (.iload_n 3, 1)) rfl ?_
              refine g_bipush hF (by decide +kernel : decode cX5_compute 90 = .ok (.bipush 105, 2)) (by decide) ?_
              refine g_icmp_ne hF (tgt := 114) (by decide +kernel : decode cX5_compute 92 = .ok (.if_icmp .ne 22, 3)) (by decide) (by omega) (by omega) (fun c92 => ?_) (fun c92 => ?_)
              · skip
                refine g_iload_n hF (by decide +kernel : decode cX5_compute 114 = .ok (.iload_n 3, 1)) rfl ?_
                refine g_bipush hF (by decide +kernel : decode cX5_compute 115 = .ok (.bipush 100, 2)) (by decide) ?_
                refine g_icmp_ne hF (tgt := 136) (by decide +kernel : decode cX5_compute 117 = .ok (.if_icmp .ne 19, 3)) (by decide) (by omega) (by omega) (fun c117 => ?_) (fun c117 => ?_)
                · skip
                  refine g_iload_n hF (by decide +kernel : decode cX5_compute 136 = .ok (.iload_n 3, 1)) rfl ?_
                  refine g_bipush hF (by decide +kernel : decode cX5_compute 137 = .ok (.bipush 102, 2)) (by decide) ?_
                  refine g_icmp_ne hF (tgt := 163) (by decide +kernel : decode cX5_compute 139 = .ok (.if_icmp .ne 24, 3)) (by decide) (by omega) (by omega) (fun c139 => ?_) (fun c139 => ?_)
                  · skip
                    exact absurd c139 (by decide)
                  · skip
                    refine g_iload hF (by decide +kernel : decode cX5_compute 142 = .ok (.iload 5, 2)) rfl ?_
                    refine g_if_lt hF (tgt := 152) (by decide +kernel : decode cX5_compute 144 = .ok (.ifCond .lt 8, 3)) (by decide) (by omega) (fun c144 => ?_) (fun c144 => ?_)
                    · skip
                      refine g_iload_n hF (by decide +kernel : decode cX5_compute 152 = .ok (.iload_n 2, 1)) rfl ?_
                      refine g_if_ge hF (tgt := 160) (by decide +kernel : decode cX5_compute 153 = .ok (.ifCond .ge 7, 3)) (by decide) (by omega) (fun c153 => ?_) (fun c153 => ?_)
                      · skip
                        refine g_iload_n hF (by decide +kernel : decode cX5_compute 160 = .ok (.iload_n 2, 1)) rfl ?_
                        refine g_istore hF (by decide +kernel : decode cX5_compute 161 = .ok (.istore 6, 2)) (by decide) ?_
                        refine g_iload_n hF (by decide +kernel : decode cX5_compute 163 = .ok (.iload_n 3, 1)) rfl ?_
                        refine g_bipush hF (by decide +kernel : decode cX5_compute 164 = .ok (.bipush 112, 2)) (by decide) ?_
                        refine g_icmp_ne hF (tgt := 199) (by decide +kernel : decode cX5_compute 166 = .ok (.if_icmp .ne 33, 3)) (by decide) (by omega) (by omega) (fun c166 => ?_) (fun c166 => ?_)
                        · skip
                          exact j199 _ _ (by unfold computeV; first | (rw [if_pos rfl, if_pos (by omega)]; done) | (rw [if_pos rfl, if_neg (by omega)]; exact wr_mod (by omega)) | (rw [if_neg (by decide), if_pos rfl, if_pos (by omega)]; done) | (rw [if_neg (by decide), if_pos rfl, if_neg (by omega)]; done) | (rw [if_neg (by decide), if_neg (by decide), if_pos rfl, if_neg (by omega)]; done) | (rw [if_neg (by decide), if_neg (by decide), if_pos rfl, if_pos (by omega)]; unfold mx0; rw [if_pos (by omega)]; done) | (rw [if_neg (by decide), if_neg (by decide), if_pos rfl, if_pos (by omega)]; unfold mx0; rw [if_neg (by omega)]; done) | (rw [if_neg (by decide), if_neg (by decide), if_neg (by decide)]; unfold doubledV; rw [if_pos (by omega)]; done) | (rw [if_neg (by decide), if_neg (by decide), if_neg (by decide)]; unfold doubledV; rw [if_neg (by omega), if_pos (by omega)]; done) | (rw [if_neg (by decide), if_neg (by decide), if_neg (by decide)]; unfold doubledV; rw [if_neg (by omega), if_neg (by omega)]; exact wr_mod (by omega)))
                        · skip
                          exact absurd c166 (by decide)
                      · skip
                        refine g_iconst hF (by decide +kernel : decode cX5_compute 156 = .ok (.iconst 0, 1)) ?_
                        refine g_goto hF (tgt := 161) (by decide +kernel : decode cX5_compute 157 = .ok (.goto 4, 3)) (by decide) ?_
                        refine g_istore hF (by decide +kernel : decode cX5_compute 161 = .ok (.istore 6, 2)) (by decide) ?_
                        refine g_iload_n hF (by decide +kernel : decode cX5_compute 163 = .ok (.iload_n 3, 1)) rfl ?_
                        refine g_bipush hF (by decide +kernel : decode cX5_compute 164 = .ok (.bipush 112, 2)) (by decide) ?_
                        refine g_icmp_ne hF (tgt := 199) (by decide +kernel : decode cX5_compute 166 = .ok (.if_icmp .ne 33, 3)) (by decide) (by omega) (by omega) (fun c166 => ?_) (fun c166 => ?_)
                        · skip
                          exact j199 _ _ (by unfold computeV; first | (rw [if_pos rfl, if_pos (by omega)]; done) | (rw [if_pos rfl, if_neg (by omega)]; exact wr_mod (by omega)) | (rw [if_neg (by decide), if_pos rfl, if_pos (by omega)]; done) | (rw [if_neg (by decide), if_pos rfl, if_neg (by omega)]; done) | (rw [if_neg (by decide), if_neg (by decide), if_pos rfl, if_neg (by omega)]; done) | (rw [if_neg (by decide), if_neg (by decide), if_pos rfl, if_pos (by omega)]; unfold mx0; rw [if_pos (by omega)]; done) | (rw [if_neg (by decide), if_neg (by decide), if_pos rfl, if_pos (by omega)]; unfold mx0; rw [if_neg (by omega)]; done) | (rw [if_neg (by decide), if_neg (by decide), if_neg (by decide)]; unfold doubledV; rw [if_pos (by omega)]; done) | (rw [if_neg (by decide), if_neg (by decide), if_neg (by decide)]; unfold doubledV; rw [if_neg (by omega), if_pos (by omega)]; done) | (rw [if_neg (by decide), if_neg (by decide), if_neg (by decide)]; unfold doubledV; rw [if_neg (by omega), if_neg (by omega)]; exact wr_mod (by omega)))
                        · skip
                          exact absurd c166 (by decide)
                    · skip
                      refine g_iload hF (by decide +kernel : decode cX5_compute 147 = .ok (.iload 5, 2)) rfl ?_
                      refine g_goto hF (tgt := 161) (by decide +kernel : decode cX5_compute 149 = .ok (.goto 12, 3)) (by decide) ?_
                      refine g_istore hF (by decide +kernel : decode cX5_compute 161 = .ok (.istore 6, 2)) (by decide) ?_
                      refine g_iload_n hF (by decide +kernel : decode cX5_compute 163 = .ok (.iload_n 3, 1)) rfl ?_
                      refine g_bipush hF (by decide +kernel : decode cX5_compute 164 = .ok (.bipush 112, 2)) (by decide) ?_
                      refine g_icmp_ne hF (tgt := 199) (by decide +kernel : decode cX5_compute 166 = .ok (.if_icmp .ne 33, 3)) (by decide) (by omega) (by omega) (fun c166 => ?_) (fun c166 => ?_)
                      · skip
                        exact j199 _ _ (by unfold computeV; first | (rw [if_pos rfl, if_pos (by omega)]; done) | (rw [if_pos rfl, if_neg (by omega)]; exact wr_mod (by omega)) | (rw [if_neg (by decide), if_pos rfl, if_pos (by omega)]; done) | (rw [if_neg (by decide), if_pos rfl, if_neg (by omega)]; done) | (rw [if_neg (by decide), if_neg (by decide), if_pos rfl, if_neg (by omega)]; done) | (rw [if_neg (by decide), if_neg (by decide), if_pos rfl, if_pos (by omega)]; unfold mx0; rw [if_pos (by omega)]; done) | (rw [if_neg (by decide), if_neg (by decide), if_pos rfl, if_pos (by omega)]; unfold mx0; rw [if_neg (by omega)]; done) | (rw [if_neg (by decide), if_neg (by decide), if_neg (by decide)]; unfold doubledV; rw [if_pos (by omega)]; done) | (rw [if_neg (by decide), if_neg (by decide), if_neg (by decide)]; unfold doubledV; rw [if_neg (by omega), if_pos (by omega)]; done) | (rw [if_neg (by decide), if_neg (by decide), if_neg (by decide)]; unfold doubledV; rw [if_neg (by omega), if_neg (by omega)]; exact wr_mod (by omega)))
                      · skip
                        exact absurd c166 (by decide)
                · skip
                  exact absurd c117 (by decide)
              · skip
                exact absurd c92 (by decide)
            · skip
              exact absurd c67 (by decide)
        · skip
          exact absurd c40 (by decide)
      · skip
        exact absurd c15 (by decide)
set_option maxHeartbeats 4000000 in
set_option maxRecDepth 100000 in
theorem yd_X5_compute (X : jX) (hX : jxok X) (s : Nat) (hs : s < 8) (k : Int) (hk : num k) (m : jM) (hI : MI m) : Con X yX5_compute cX5_compute 7 (some .int) 8 [vR 2 51, vI s, vI k, vI 112] m (fun o m' => o = some (vI (computeV (tat (mR m s) k) k 112)) ∧ MW (mset m 51 2 0) s (fmark (mR m s) k (computeV (tat (mR m s) k) k 112)) m') := by
  refine Con.of hX (by decide) (Nat.le_of_ble_eq_true rfl) (fun F hF hQ => ?_)
  have hr := hI.1 s hs
  have hk2 : -1 ≤ k ∧ k ≤ 255 := hk
  refine g_iload_n hF (by decide +kernel : decode cX5_compute 0 = .ok (.iload_n 3, 1)) rfl ?_
  refine g_bipush hF (by decide +kernel : decode cX5_compute 1 = .ok (.bipush 105, 2)) (by decide) ?_
  refine g_icmp_eq hF (tgt := 24) (by decide +kernel : decode cX5_compute 3 = .ok (.if_icmp .eq 21, 3)) (by decide) (by omega) (by omega) (fun c3 => ?_) (fun c3 => ?_)
  · skip
    exact absurd c3 (by decide)
  · skip
    refine g_iload_n hF (by decide +kernel : decode cX5_compute 6 = .ok (.iload_n 3, 1)) rfl ?_
    refine g_bipush hF (by decide +kernel : decode cX5_compute 7 = .ok (.bipush 100, 2)) (by decide) ?_
    refine g_icmp_eq hF (tgt := 24) (by decide +kernel : decode cX5_compute 9 = .ok (.if_icmp .eq 15, 3)) (by decide) (by omega) (by omega) (fun c9 => ?_) (fun c9 => ?_)
    · skip
      exact absurd c9 (by decide)
    · skip
      refine g_iload_n hF (by decide +kernel : decode cX5_compute 12 = .ok (.iload_n 3, 1)) rfl ?_
      refine g_bipush hF (by decide +kernel : decode cX5_compute 13 = .ok (.bipush 102, 2)) (by decide) ?_
      refine g_icmp_eq hF (tgt := 24) (by decide +kernel : decode cX5_compute 15 = .ok (.if_icmp .eq 9, 3)) (by decide) (by omega) (by omega) (fun c15 => ?_) (fun c15 => ?_)
      · skip
        exact absurd c15 (by decide)
      · skip
        refine g_iload_n hF (by decide +kernel : decode cX5_compute 18 = .ok (.iload_n 3, 1)) rfl ?_
        refine g_bipush hF (by decide +kernel : decode cX5_compute 19 = .ok (.bipush 112, 2)) (by decide) ?_
        refine g_icmp_ne hF (tgt := 28) (by decide +kernel : decode cX5_compute 21 = .ok (.if_icmp .ne 7, 3)) (by decide) (by omega) (by omega) (fun c21 => ?_) (fun c21 => ?_)
        · skip
          exact absurd c21 (by decide)
        · skip
          refine g_iconst hF (by decide +kernel : decode cX5_compute 24 = .ok (.iconst 1, 1)) ?_
          refine g_goto hF (tgt := 29) (by decide +kernel : decode cX5_compute 25 = .ok (.goto 4, 3)) (by decide) ?_
          refine g_istore hF (by decide +kernel : decode cX5_compute 29 = .ok (.istore 4, 2)) (by decide) ?_
          refine g_aload_n hF (by decide +kernel : decode cX5_compute 31 = .ok (.aload_n 0, 1)) rfl ?_
          refine g_aload_n hF (by decide +kernel : decode cX5_compute 32 = .ok (.aload_n 0, 1)) rfl ?_
          refine g_iload_n hF (by decide +kernel : decode cX5_compute 33 = .ok (.iload_n 1, 1)) rfl ?_
          refine g_iload_n hF (by decide +kernel : decode cX5_compute 34 = .ok (.iload_n 2, 1)) rfl ?_
          refine g_iconst hF (by decide +kernel : decode cX5_compute 35 = .ok (.iconst 0, 1)) ?_
          refine g_iconst hF (by decide +kernel : decode cX5_compute 36 = .ok (.iconst 0, 1)) ?_
          refine g_callV hF lkX5_49 (y_X5_no X hX _ (by omega) _ _ _ (by omega) (by omega) (by omega) (by unfold num; omega) _) (by decide +kernel : decode cX5_compute 37 = .ok (.invokevirtual 49, 3)) (by decide) rfl rfl rfl rfl jok51 (Nat.le_of_ble_eq_true rfl) (fun v37 m37 h37 => ?_)
          obtain ⟨rfl, e37⟩ := h37
          obtain rfl := e37.symm
          refine g_if_le hF (tgt := 54) (by decide +kernel : decode cX5_compute 40 = .ok (.ifCond .le 14, 3)) (by decide) (by omega) (fun c40 => ?_) (fun c40 => ?_)
          · skip
            refine g_iload hF (by decide +kernel : decode cX5_compute 54 = .ok (.iload 4, 2)) rfl ?_
            refine g_if_eq hF (tgt := 63) (by decide +kernel : decode cX5_compute 56 = .ok (.ifCond .eq 7, 3)) (by decide) (by omega) (fun c56 => ?_) (fun c56 => ?_)
            · skip
              exact absurd c56 (by decide)
            · skip
              refine g_iconst hF (by decide +kernel : decode cX5_compute 59 = .ok (.iconst 0, 1)) ?_
              refine g_goto hF (tgt := 64) (by decide +kernel : decode cX5_compute 60 = .ok (.goto 4, 3)) (by decide) ?_
              refine g_callV hF lkX5_53 (y_X5_fails X hX _) (by decide +kernel : decode cX5_compute 64 = .ok (.invokevirtual 53, 3)) (by decide) rfl rfl rfl rfl jok51 (Nat.le_of_ble_eq_true rfl) (fun v64 m64 h64 => ?_)
              obtain ⟨rfl, e64⟩ := h64
              have S0 : MSm m m64 := by rw [e64]; exact MSm_code m (Or.inl rfl) 0
              have I0 := MI_S hI S0
              have z0 : m64 51 2 = 0 := by rw [e64, mset_at]
              have r0 : ∀ t : Nat, mR m64 t = mR m t := fun t => mR_52 (S0.1 52 (by decide) (by decide) (by decide)) t
              refine g_if_eq hF (tgt := 72) (by decide +kernel : decode cX5_compute 67 = .ok (.ifCond .eq 5, 3)) (by decide) (by omega) (fun c67 => ?_) (fun c67 => ?_)
              · skip
                refine g_aload_n hF (by decide +kernel : decode cX5_compute 72 = .ok (.aload_n 0, 1)) rfl ?_
                refine g_iload_n hF (by decide +kernel : decode cX5_compute 73 = .ok (.iload_n 1, 1)) rfl ?_
                refine g_callV hF lkX5_56 (c_X5_keeps X hX _ (by omega) _ (by assumption)) (by decide +kernel : decode cX5_compute 74 = .ok (.invokevirtual 56, 3)) (by decide) rfl rfl rfl rfl jok51 (Nat.le_of_ble_eq_true rfl) (fun v74 m74 h74 => ?_)
                obtain ⟨rfl, k74⟩ := h74
                have I1 := MI_keep hs I0 k74
                have rk : mR m74 s = mR m s := by rw [mR_52 (m_52 k74), r0]
                refine g_aload_n hF (by decide +kernel : decode cX5_compute 77 = .ok (.aload_n 0, 1)) rfl ?_
                refine g_iload_n hF (by decide +kernel : decode cX5_compute 78 = .ok (.iload_n 1, 1)) rfl ?_
                refine g_iload_n hF (by decide +kernel : decode cX5_compute 79 = .ok (.iload_n 2, 1)) rfl ?_
                refine g_callV hF lkX5_60 (c_X5_at X hX _ (by omega) _ (show num _ from ⟨by omega, by omega⟩) _) (by decide +kernel : decode cX5_compute 80 = .ok (.invokevirtual 60, 3)) (by decide) rfl rfl rfl rfl jok51 (Nat.le_of_ble_eq_true rfl) (fun v80 m80 h80 => ?_)
                obtain ⟨rfl, e80⟩ := h80
                obtain rfl := e80.symm
                rw [show mR m74 s (k + 1) = tat (mR m s) k by rw [rk, tat_in hk2]]
                have hb := tat_b hr k
                have j199 : ∀ (x a : Int), x = computeV (tat (mR m s) k) k 112 → jG F X m74 199 [(0, vR 2 51), (1, vI s), (2, vI k), (3, vI 112), (4, vI 1), (5, vI a), (6, vI x)] [] := by
                  intro x a hx
                  refine g_aload_n hF (by decide +kernel : decode cX5_compute 199 = .ok (.aload_n 0, 1)) rfl ?_
                  refine g_iload_n hF (by decide +kernel : decode cX5_compute 200 = .ok (.iload_n 1, 1)) rfl ?_
                  refine g_iload_n hF (by decide +kernel : decode cX5_compute 201 = .ok (.iload_n 2, 1)) rfl ?_
                  refine g_iload hF (by decide +kernel : decode cX5_compute 202 = .ok (.iload 6, 2)) rfl ?_
                  refine g_callV hF lkX5_64 (c_X5_sets X hX _ (by omega) _ _ (show num _ from ⟨by omega, by omega⟩) _) (by decide +kernel : decode cX5_compute 204 = .ok (.invokevirtual 64, 3)) (by decide) rfl rfl rfl rfl jok51 (Nat.le_of_ble_eq_true rfl) (fun v204 m204 h204 => ?_)
                  obtain ⟨rfl, e204⟩ := h204
                  have cw : MW m64 s (fmark (mR m s) k x) m204 := by rw [← rk]; exact MW_of k74 e204
                  refine g_iload hF (by decide +kernel : decode cX5_compute 207 = .ok (.iload 6, 2)) rfl ?_
                  refine g_ireturn hF hQ (by decide +kernel : decode cX5_compute 209 = .ok (.ireturn, 1)) ?_
                  exact ⟨by rw [hx], by rw [← e64, ← hx]; exact cw⟩
                refine g_istore hF (by decide +kernel : decode cX5_compute 83 = .ok (.istore 5, 2)) (by decide) ?_
                refine g_iload hF (by decide +kernel : decode cX5_compute 85 = .ok (.iload 5, 2)) rfl ?_
                refine g_istore hF (by decide +kernel : decode cX5_compute 87 = .ok (.istore 6, 2)) (by decide) ?_
                refine g_iload_n hF (by decide +kernel : decode cX5_compute 89 = .ok (.iload_n 3, 1)) rfl ?_
                refine g_bipush hF (by decide +kernel : decode cX5_compute 90 = .ok (.bipush 105, 2)) (by decide) ?_
                refine g_icmp_ne hF (tgt := 114) (by decide +kernel : decode cX5_compute 92 = .ok (.if_icmp .ne 22, 3)) (by decide) (by omega) (by omega) (fun c92 => ?_) (fun c92 => ?_)
                · skip
                  refine g_iload_n hF (by decide +kernel : decode cX5_compute 114 = .ok (.iload_n 3, 1)) rfl ?_
                  refine g_bipush hF (by decide +kernel : decode cX5_compute 115 = .ok (.bipush 100, 2)) (by decide) ?_
                  refine g_icmp_ne hF (tgt := 136) (by decide +kernel : decode cX5_compute 117 = .ok (.if_icmp .ne 19, 3)) (by decide) (by omega) (by omega) (fun c117 => ?_) (fun c117 => ?_)
                  · skip
                    refine g_iload_n hF (by decide +kernel : decode cX5_compute 136 = .ok (.iload_n 3, 1)) rfl ?_
                    refine g_bipush hF (by decide +kernel : decode cX5_compute 137 = .ok (.bipush 102, 2)) (by decide) ?_
                    refine g_icmp_ne hF (tgt := 163) (by decide +kernel : decode cX5_compute 139 = .ok (.if_icmp .ne 24, 3)) (by decide) (by omega) (by omega) (fun c139 => ?_) (fun c139 => ?_)
                    · skip
                      refine g_iload_n hF (by decide +kernel : decode cX5_compute 163 = .ok (.iload_n 3, 1)) rfl ?_
                      refine g_bipush hF (by decide +kernel : decode cX5_compute 164 = .ok (.bipush 112, 2)) (by decide) ?_
                      refine g_icmp_ne hF (tgt := 199) (by decide +kernel : decode cX5_compute 166 = .ok (.if_icmp .ne 33, 3)) (by decide) (by omega) (by omega) (fun c166 => ?_) (fun c166 => ?_)
                      · skip
                        exact absurd c166 (by decide)
                      · skip
                        refine g_iload hF (by decide +kernel : decode cX5_compute 169 = .ok (.iload 5, 2)) rfl ?_
                        refine g_if_ge hF (tgt := 179) (by decide +kernel : decode cX5_compute 171 = .ok (.ifCond .ge 8, 3)) (by decide) (by omega) (fun c171 => ?_) (fun c171 => ?_)
                        · skip
                          refine g_iload hF (by decide +kernel : decode cX5_compute 179 = .ok (.iload 5, 2)) rfl ?_
                          refine g_if_ne hF (tgt := 189) (by decide +kernel : decode cX5_compute 181 = .ok (.ifCond .ne 8, 3)) (by decide) (by omega) (fun c181 => ?_) (fun c181 => ?_)
                          · skip
                            refine g_iconst hF (by decide +kernel : decode cX5_compute 189 = .ok (.iconst 2, 1)) ?_
                            refine g_iload hF (by decide +kernel : decode cX5_compute 190 = .ok (.iload 5, 2)) rfl ?_
                            refine g_imul hF (by decide +kernel : decode cX5_compute 192 = .ok (.imul, 1)) ?_
                            refine g_sipush hF (by decide +kernel : decode cX5_compute 193 = .ok (.sipush 256, 3)) (by decide) ?_
                            refine g_irem hF (by decide +kernel : decode cX5_compute 196 = .ok (.irem, 1)) (by omega) (by omega) ?_
                            refine g_istore hF (by decide +kernel : decode cX5_compute 197 = .ok (.istore 6, 2)) (by decide) ?_
                            exact j199 _ _ (by unfold computeV; first | (rw [if_pos rfl, if_pos (by omega)]; done) | (rw [if_pos rfl, if_neg (by omega)]; exact wr_mod (by omega)) | (rw [if_neg (by decide), if_pos rfl, if_pos (by omega)]; done) | (rw [if_neg (by decide), if_pos rfl, if_neg (by omega)]; done) | (rw [if_neg (by decide), if_neg (by decide), if_pos rfl, if_neg (by omega)]; done) | (rw [if_neg (by decide), if_neg (by decide), if_pos rfl, if_pos (by omega)]; unfold mx0; rw [if_pos (by omega)]; done) | (rw [if_neg (by decide), if_neg (by decide), if_pos rfl, if_pos (by omega)]; unfold mx0; rw [if_neg (by omega)]; done) | (rw [if_neg (by decide), if_neg (by decide), if_neg (by decide)]; unfold doubledV; rw [if_pos (by omega)]; done) | (rw [if_neg (by decide), if_neg (by decide), if_neg (by decide)]; unfold doubledV; rw [if_neg (by omega), if_pos (by omega)]; done) | (rw [if_neg (by decide), if_neg (by decide), if_neg (by decide)]; unfold doubledV; rw [if_neg (by omega), if_neg (by omega)]; exact wr_mod (by omega)))
                          · skip
                            refine g_bipush hF (by decide +kernel : decode cX5_compute 184 = .ok (.bipush (-2), 2)) (by decide) ?_
                            refine g_goto hF (tgt := 197) (by decide +kernel : decode cX5_compute 186 = .ok (.goto 11, 3)) (by decide) ?_
                            refine g_istore hF (by decide +kernel : decode cX5_compute 197 = .ok (.istore 6, 2)) (by decide) ?_
                            exact j199 _ _ (by unfold computeV; first | (rw [if_pos rfl, if_pos (by omega)]; done) | (rw [if_pos rfl, if_neg (by omega)]; exact wr_mod (by omega)) | (rw [if_neg (by decide), if_pos rfl, if_pos (by omega)]; done) | (rw [if_neg (by decide), if_pos rfl, if_neg (by omega)]; done) | (rw [if_neg (by decide), if_neg (by decide), if_pos rfl, if_neg (by omega)]; done) | (rw [if_neg (by decide), if_neg (by decide), if_pos rfl, if_pos (by omega)]; unfold mx0; rw [if_pos (by omega)]; done) | (rw [if_neg (by decide), if_neg (by decide), if_pos rfl, if_pos (by omega)]; unfold mx0; rw [if_neg (by omega)]; done) | (rw [if_neg (by decide), if_neg (by decide), if_neg (by decide)]; unfold doubledV; rw [if_pos (by omega)]; done) | (rw [if_neg (by decide), if_neg (by decide), if_neg (by decide)]; unfold doubledV; rw [if_neg (by omega), if_pos (by omega)]; done) | (rw [if_neg (by decide), if_neg (by decide), if_neg (by decide)]; unfold doubledV; rw [if_neg (by omega), if_neg (by omega)]; exact wr_mod (by omega)))
                        · skip
                          refine g_iload hF (by decide +kernel : decode cX5_compute 174 = .ok (.iload 5, 2)) rfl ?_
                          refine g_goto hF (tgt := 197) (by decide +kernel : decode cX5_compute 176 = .ok (.goto 21, 3)) (by decide) ?_
                          refine g_istore hF (by decide +kernel : decode cX5_compute 197 = .ok (.istore 6, 2)) (by decide) ?_
                          exact j199 _ _ (by unfold computeV; first | (rw [if_pos rfl, if_pos (by omega)]; done) | (rw [if_pos rfl, if_neg (by omega)]; exact wr_mod (by omega)) | (rw [if_neg (by decide), if_pos rfl, if_pos (by omega)]; done) | (rw [if_neg (by decide), if_pos rfl, if_neg (by omega)]; done) | (rw [if_neg (by decide), if_neg (by decide), if_pos rfl, if_neg (by omega)]; done) | (rw [if_neg (by decide), if_neg (by decide), if_pos rfl, if_pos (by omega)]; unfold mx0; rw [if_pos (by omega)]; done) | (rw [if_neg (by decide), if_neg (by decide), if_pos rfl, if_pos (by omega)]; unfold mx0; rw [if_neg (by omega)]; done) | (rw [if_neg (by decide), if_neg (by decide), if_neg (by decide)]; unfold doubledV; rw [if_pos (by omega)]; done) | (rw [if_neg (by decide), if_neg (by decide), if_neg (by decide)]; unfold doubledV; rw [if_neg (by omega), if_pos (by omega)]; done) | (rw [if_neg (by decide), if_neg (by decide), if_neg (by decide)]; unfold doubledV; rw [if_neg (by omega), if_neg (by omega)]; exact wr_mod (by omega)))
                    · skip
                      exact absurd c139 (by decide)
                  · skip
                    exact absurd c117 (by decide)
                · skip
                  exact absurd c92 (by decide)
              · skip
                exact absurd c67 (by decide)
          · skip
            exact absurd c40 (by decide)
theorem y_X5_compute (X : jX) (hX : jxok X) (s : Nat) (hs : s < 8) (k h : Int) (hk : num k) (hw : wayC h) (m : jM) (hI : MI m) : Con X yX5_compute cX5_compute 7 (some .int) 8 [vR 2 51, vI s, vI k, vI h] m (fun o m' => o = some (vI (computeV (tat (mR m s) k) k h)) ∧ MW (mset m 51 2 0) s (fmark (mR m s) k (computeV (tat (mR m s) k) k h)) m') := by
  rcases hw with rfl | rfl | rfl | rfl
  · exact ya_X5_compute X hX s hs k hk m hI
  · exact yb_X5_compute X hX s hs k hk m hI
  · exact yc_X5_compute X hX s hs k hk m hI
  · exact yd_X5_compute X hX s hs k hk m hI
set_option maxHeartbeats 4000000 in
set_option maxRecDepth 100000 in
theorem n1_X5_compute (X : jX) (hX : jxok X) (s : Int) (js : jr s) (k : Int) (jk : jr k) (h0 : Int) (jh : jr h0) (m : jM) (h : ¬ (0 ≤ s ∧ s < 8)) : Con X yX5_compute cX5_compute 7 (some .int) 8 [vR 2 51, vI s, vI k, vI h0] m (fun o m' => o = some (vI 0) ∧ m' = mset m 51 2 1) := by
  refine Con.of hX (by decide) (Nat.le_of_ble_eq_true rfl) (fun F hF hQ => ?_)
  refine g_iload_n hF (by decide +kernel : decode cX5_compute 0 = .ok (.iload_n 3, 1)) rfl ?_
  refine g_bipush hF (by decide +kernel : decode cX5_compute 1 = .ok (.bipush 105, 2)) (by decide) ?_
  refine g_icmp_eq hF (tgt := 24) (by decide +kernel : decode cX5_compute 3 = .ok (.if_icmp .eq 21, 3)) (by decide) (by omega) (by omega) (fun c3 => ?_) (fun c3 => ?_)
  · skip
    refine g_iconst hF (by decide +kernel : decode cX5_compute 24 = .ok (.iconst 1, 1)) ?_
    refine g_goto hF (tgt := 29) (by decide +kernel : decode cX5_compute 25 = .ok (.goto 4, 3)) (by decide) ?_
    refine g_istore hF (by decide +kernel : decode cX5_compute 29 = .ok (.istore 4, 2)) (by decide) ?_
    refine g_aload_n hF (by decide +kernel : decode cX5_compute 31 = .ok (.aload_n 0, 1)) rfl ?_
    refine g_aload_n hF (by decide +kernel : decode cX5_compute 32 = .ok (.aload_n 0, 1)) rfl ?_
    refine g_iload_n hF (by decide +kernel : decode cX5_compute 33 = .ok (.iload_n 1, 1)) rfl ?_
    refine g_iload_n hF (by decide +kernel : decode cX5_compute 34 = .ok (.iload_n 2, 1)) rfl ?_
    refine g_iconst hF (by decide +kernel : decode cX5_compute 35 = .ok (.iconst 0, 1)) ?_
    refine g_iconst hF (by decide +kernel : decode cX5_compute 36 = .ok (.iconst 0, 1)) ?_
    refine g_callV hF lkX5_49 (n1_X5_no X hX _ (by omega) (by omega) _ _ _ _) (by decide +kernel : decode cX5_compute 37 = .ok (.invokevirtual 49, 3)) (by decide) rfl rfl rfl rfl jok51 (Nat.le_of_ble_eq_true rfl) (fun v37 m37 h37 => ?_)
    obtain ⟨rfl, e37⟩ := h37
    obtain rfl := e37.symm
    refine g_if_le hF (tgt := 54) (by decide +kernel : decode cX5_compute 40 = .ok (.ifCond .le 14, 3)) (by decide) (by omega) (fun c40 => ?_) (fun c40 => ?_)
    · skip
      exact absurd c40 (by decide)
    · skip
      refine g_aload_n hF (by decide +kernel : decode cX5_compute 43 = .ok (.aload_n 0, 1)) rfl ?_
      refine g_iload_n hF (by decide +kernel : decode cX5_compute 44 = .ok (.iload_n 1, 1)) rfl ?_
      refine g_iload_n hF (by decide +kernel : decode cX5_compute 45 = .ok (.iload_n 2, 1)) rfl ?_
      refine g_iconst hF (by decide +kernel : decode cX5_compute 46 = .ok (.iconst 0, 1)) ?_
      refine g_iconst hF (by decide +kernel : decode cX5_compute 47 = .ok (.iconst 0, 1)) ?_
      refine g_callV hF lkX5_49 (n1_X5_no X hX _ (by omega) (by omega) _ _ _ _) (by decide +kernel : decode cX5_compute 48 = .ok (.invokevirtual 49, 3)) (by decide) rfl rfl rfl rfl jok51 (Nat.le_of_ble_eq_true rfl) (fun v48 m48 h48 => ?_)
      obtain ⟨rfl, e48⟩ := h48
      obtain rfl := e48.symm
      refine g_goto hF (tgt := 64) (by decide +kernel : decode cX5_compute 51 = .ok (.goto 13, 3)) (by decide) ?_
      refine g_callV hF lkX5_53 (n_X5_fails X hX _ (by decide) _) (by decide +kernel : decode cX5_compute 64 = .ok (.invokevirtual 53, 3)) (by decide) rfl rfl rfl rfl jok51 (Nat.le_of_ble_eq_true rfl) (fun v64 m64 h64 => ?_)
      obtain ⟨rfl, e64⟩ := h64
      obtain rfl := e64.symm
      refine g_if_eq hF (tgt := 72) (by decide +kernel : decode cX5_compute 67 = .ok (.ifCond .eq 5, 3)) (by decide) (by omega) (fun c67 => ?_) (fun c67 => ?_)
      · skip
        exact absurd c67 (by decide)
      · skip
        refine g_iconst hF (by decide +kernel : decode cX5_compute 70 = .ok (.iconst 0, 1)) ?_
        refine g_ireturn hF hQ (by decide +kernel : decode cX5_compute 71 = .ok (.ireturn, 1)) ?_
        exact ⟨rfl, rfl⟩
  · skip
    refine g_iload_n hF (by decide +kernel : decode cX5_compute 6 = .ok (.iload_n 3, 1)) rfl ?_
    refine g_bipush hF (by decide +kernel : decode cX5_compute 7 = .ok (.bipush 100, 2)) (by decide) ?_
    refine g_icmp_eq hF (tgt := 24) (by decide +kernel : decode cX5_compute 9 = .ok (.if_icmp .eq 15, 3)) (by decide) (by omega) (by omega) (fun c9 => ?_) (fun c9 => ?_)
    · skip
      refine g_iconst hF (by decide +kernel : decode cX5_compute 24 = .ok (.iconst 1, 1)) ?_
      refine g_goto hF (tgt := 29) (by decide +kernel : decode cX5_compute 25 = .ok (.goto 4, 3)) (by decide) ?_
      refine g_istore hF (by decide +kernel : decode cX5_compute 29 = .ok (.istore 4, 2)) (by decide) ?_
      refine g_aload_n hF (by decide +kernel : decode cX5_compute 31 = .ok (.aload_n 0, 1)) rfl ?_
      refine g_aload_n hF (by decide +kernel : decode cX5_compute 32 = .ok (.aload_n 0, 1)) rfl ?_
      refine g_iload_n hF (by decide +kernel : decode cX5_compute 33 = .ok (.iload_n 1, 1)) rfl ?_
      refine g_iload_n hF (by decide +kernel : decode cX5_compute 34 = .ok (.iload_n 2, 1)) rfl ?_
      refine g_iconst hF (by decide +kernel : decode cX5_compute 35 = .ok (.iconst 0, 1)) ?_
      refine g_iconst hF (by decide +kernel : decode cX5_compute 36 = .ok (.iconst 0, 1)) ?_
      refine g_callV hF lkX5_49 (n1_X5_no X hX _ (by omega) (by omega) _ _ _ _) (by decide +kernel : decode cX5_compute 37 = .ok (.invokevirtual 49, 3)) (by decide) rfl rfl rfl rfl jok51 (Nat.le_of_ble_eq_true rfl) (fun v37 m37 h37 => ?_)
      obtain ⟨rfl, e37⟩ := h37
      obtain rfl := e37.symm
      refine g_if_le hF (tgt := 54) (by decide +kernel : decode cX5_compute 40 = .ok (.ifCond .le 14, 3)) (by decide) (by omega) (fun c40 => ?_) (fun c40 => ?_)
      · skip
        exact absurd c40 (by decide)
      · skip
        refine g_aload_n hF (by decide +kernel : decode cX5_compute 43 = .ok (.aload_n 0, 1)) rfl ?_
        refine g_iload_n hF (by decide +kernel : decode cX5_compute 44 = .ok (.iload_n 1, 1)) rfl ?_
        refine g_iload_n hF (by decide +kernel : decode cX5_compute 45 = .ok (.iload_n 2, 1)) rfl ?_
        refine g_iconst hF (by decide +kernel : decode cX5_compute 46 = .ok (.iconst 0, 1)) ?_
        refine g_iconst hF (by decide +kernel : decode cX5_compute 47 = .ok (.iconst 0, 1)) ?_
        refine g_callV hF lkX5_49 (n1_X5_no X hX _ (by omega) (by omega) _ _ _ _) (by decide +kernel : decode cX5_compute 48 = .ok (.invokevirtual 49, 3)) (by decide) rfl rfl rfl rfl jok51 (Nat.le_of_ble_eq_true rfl) (fun v48 m48 h48 => ?_)
        obtain ⟨rfl, e48⟩ := h48
        obtain rfl := e48.symm
        refine g_goto hF (tgt := 64) (by decide +kernel : decode cX5_compute 51 = .ok (.goto 13, 3)) (by decide) ?_
        refine g_callV hF lkX5_53 (n_X5_fails X hX _ (by decide) _) (by decide +kernel : decode cX5_compute 64 = .ok (.invokevirtual 53, 3)) (by decide) rfl rfl rfl rfl jok51 (Nat.le_of_ble_eq_true rfl) (fun v64 m64 h64 => ?_)
        obtain ⟨rfl, e64⟩ := h64
        obtain rfl := e64.symm
        refine g_if_eq hF (tgt := 72) (by decide +kernel : decode cX5_compute 67 = .ok (.ifCond .eq 5, 3)) (by decide) (by omega) (fun c67 => ?_) (fun c67 => ?_)
        · skip
          exact absurd c67 (by decide)
        · skip
          refine g_iconst hF (by decide +kernel : decode cX5_compute 70 = .ok (.iconst 0, 1)) ?_
          refine g_ireturn hF hQ (by decide +kernel : decode cX5_compute 71 = .ok (.ireturn, 1)) ?_
          exact ⟨rfl, rfl⟩
    · skip
      refine g_iload_n hF (by decide +kernel : decode cX5_compute 12 = .ok (.iload_n 3, 1)) rfl ?_
      refine g_bipush hF (by decide +kernel : decode cX5_compute 13 = .ok (.bipush 102, 2)) (by decide) ?_
      refine g_icmp_eq hF (tgt := 24) (by decide +kernel : decode cX5_compute 15 = .ok (.if_icmp .eq 9, 3)) (by decide) (by omega) (by omega) (fun c15 => ?_) (fun c15 => ?_)
      · skip
        refine g_iconst hF (by decide +kernel : decode cX5_compute 24 = .ok (.iconst 1, 1)) ?_
        refine g_goto hF (tgt := 29) (by decide +kernel : decode cX5_compute 25 = .ok (.goto 4, 3)) (by decide) ?_
        refine g_istore hF (by decide +kernel : decode cX5_compute 29 = .ok (.istore 4, 2)) (by decide) ?_
        refine g_aload_n hF (by decide +kernel : decode cX5_compute 31 = .ok (.aload_n 0, 1)) rfl ?_
        refine g_aload_n hF (by decide +kernel : decode cX5_compute 32 = .ok (.aload_n 0, 1)) rfl ?_
        refine g_iload_n hF (by decide +kernel : decode cX5_compute 33 = .ok (.iload_n 1, 1)) rfl ?_
        refine g_iload_n hF (by decide +kernel : decode cX5_compute 34 = .ok (.iload_n 2, 1)) rfl ?_
        refine g_iconst hF (by decide +kernel : decode cX5_compute 35 = .ok (.iconst 0, 1)) ?_
        refine g_iconst hF (by decide +kernel : decode cX5_compute 36 = .ok (.iconst 0, 1)) ?_
        refine g_callV hF lkX5_49 (n1_X5_no X hX _ (by omega) (by omega) _ _ _ _) (by decide +kernel : decode cX5_compute 37 = .ok (.invokevirtual 49, 3)) (by decide) rfl rfl rfl rfl jok51 (Nat.le_of_ble_eq_true rfl) (fun v37 m37 h37 => ?_)
        obtain ⟨rfl, e37⟩ := h37
        obtain rfl := e37.symm
        refine g_if_le hF (tgt := 54) (by decide +kernel : decode cX5_compute 40 = .ok (.ifCond .le 14, 3)) (by decide) (by omega) (fun c40 => ?_) (fun c40 => ?_)
        · skip
          exact absurd c40 (by decide)
        · skip
          refine g_aload_n hF (by decide +kernel : decode cX5_compute 43 = .ok (.aload_n 0, 1)) rfl ?_
          refine g_iload_n hF (by decide +kernel : decode cX5_compute 44 = .ok (.iload_n 1, 1)) rfl ?_
          refine g_iload_n hF (by decide +kernel : decode cX5_compute 45 = .ok (.iload_n 2, 1)) rfl ?_
          refine g_iconst hF (by decide +kernel : decode cX5_compute 46 = .ok (.iconst 0, 1)) ?_
          refine g_iconst hF (by decide +kernel : decode cX5_compute 47 = .ok (.iconst 0, 1)) ?_
          refine g_callV hF lkX5_49 (n1_X5_no X hX _ (by omega) (by omega) _ _ _ _) (by decide +kernel : decode cX5_compute 48 = .ok (.invokevirtual 49, 3)) (by decide) rfl rfl rfl rfl jok51 (Nat.le_of_ble_eq_true rfl) (fun v48 m48 h48 => ?_)
          obtain ⟨rfl, e48⟩ := h48
          obtain rfl := e48.symm
          refine g_goto hF (tgt := 64) (by decide +kernel : decode cX5_compute 51 = .ok (.goto 13, 3)) (by decide) ?_
          refine g_callV hF lkX5_53 (n_X5_fails X hX _ (by decide) _) (by decide +kernel : decode cX5_compute 64 = .ok (.invokevirtual 53, 3)) (by decide) rfl rfl rfl rfl jok51 (Nat.le_of_ble_eq_true rfl) (fun v64 m64 h64 => ?_)
          obtain ⟨rfl, e64⟩ := h64
          obtain rfl := e64.symm
          refine g_if_eq hF (tgt := 72) (by decide +kernel : decode cX5_compute 67 = .ok (.ifCond .eq 5, 3)) (by decide) (by omega) (fun c67 => ?_) (fun c67 => ?_)
          · skip
            exact absurd c67 (by decide)
          · skip
            refine g_iconst hF (by decide +kernel : decode cX5_compute 70 = .ok (.iconst 0, 1)) ?_
            refine g_ireturn hF hQ (by decide +kernel : decode cX5_compute 71 = .ok (.ireturn, 1)) ?_
            exact ⟨rfl, rfl⟩
      · skip
        refine g_iload_n hF (by decide +kernel : decode cX5_compute 18 = .ok (.iload_n 3, 1)) rfl ?_
        refine g_bipush hF (by decide +kernel : decode cX5_compute 19 = .ok (.bipush 112, 2)) (by decide) ?_
        refine g_icmp_ne hF (tgt := 28) (by decide +kernel : decode cX5_compute 21 = .ok (.if_icmp .ne 7, 3)) (by decide) (by omega) (by omega) (fun c21 => ?_) (fun c21 => ?_)
        · skip
          refine g_iconst hF (by decide +kernel : decode cX5_compute 28 = .ok (.iconst 0, 1)) ?_
          refine g_istore hF (by decide +kernel : decode cX5_compute 29 = .ok (.istore 4, 2)) (by decide) ?_
          refine g_aload_n hF (by decide +kernel : decode cX5_compute 31 = .ok (.aload_n 0, 1)) rfl ?_
          refine g_aload_n hF (by decide +kernel : decode cX5_compute 32 = .ok (.aload_n 0, 1)) rfl ?_
          refine g_iload_n hF (by decide +kernel : decode cX5_compute 33 = .ok (.iload_n 1, 1)) rfl ?_
          refine g_iload_n hF (by decide +kernel : decode cX5_compute 34 = .ok (.iload_n 2, 1)) rfl ?_
          refine g_iconst hF (by decide +kernel : decode cX5_compute 35 = .ok (.iconst 0, 1)) ?_
          refine g_iconst hF (by decide +kernel : decode cX5_compute 36 = .ok (.iconst 0, 1)) ?_
          refine g_callV hF lkX5_49 (n1_X5_no X hX _ (by omega) (by omega) _ _ _ _) (by decide +kernel : decode cX5_compute 37 = .ok (.invokevirtual 49, 3)) (by decide) rfl rfl rfl rfl jok51 (Nat.le_of_ble_eq_true rfl) (fun v37 m37 h37 => ?_)
          obtain ⟨rfl, e37⟩ := h37
          obtain rfl := e37.symm
          refine g_if_le hF (tgt := 54) (by decide +kernel : decode cX5_compute 40 = .ok (.ifCond .le 14, 3)) (by decide) (by omega) (fun c40 => ?_) (fun c40 => ?_)
          · skip
            exact absurd c40 (by decide)
          · skip
            refine g_aload_n hF (by decide +kernel : decode cX5_compute 43 = .ok (.aload_n 0, 1)) rfl ?_
            refine g_iload_n hF (by decide +kernel : decode cX5_compute 44 = .ok (.iload_n 1, 1)) rfl ?_
            refine g_iload_n hF (by decide +kernel : decode cX5_compute 45 = .ok (.iload_n 2, 1)) rfl ?_
            refine g_iconst hF (by decide +kernel : decode cX5_compute 46 = .ok (.iconst 0, 1)) ?_
            refine g_iconst hF (by decide +kernel : decode cX5_compute 47 = .ok (.iconst 0, 1)) ?_
            refine g_callV hF lkX5_49 (n1_X5_no X hX _ (by omega) (by omega) _ _ _ _) (by decide +kernel : decode cX5_compute 48 = .ok (.invokevirtual 49, 3)) (by decide) rfl rfl rfl rfl jok51 (Nat.le_of_ble_eq_true rfl) (fun v48 m48 h48 => ?_)
            obtain ⟨rfl, e48⟩ := h48
            obtain rfl := e48.symm
            refine g_goto hF (tgt := 64) (by decide +kernel : decode cX5_compute 51 = .ok (.goto 13, 3)) (by decide) ?_
            refine g_callV hF lkX5_53 (n_X5_fails X hX _ (by decide) _) (by decide +kernel : decode cX5_compute 64 = .ok (.invokevirtual 53, 3)) (by decide) rfl rfl rfl rfl jok51 (Nat.le_of_ble_eq_true rfl) (fun v64 m64 h64 => ?_)
            obtain ⟨rfl, e64⟩ := h64
            obtain rfl := e64.symm
            refine g_if_eq hF (tgt := 72) (by decide +kernel : decode cX5_compute 67 = .ok (.ifCond .eq 5, 3)) (by decide) (by omega) (fun c67 => ?_) (fun c67 => ?_)
            · skip
              exact absurd c67 (by decide)
            · skip
              refine g_iconst hF (by decide +kernel : decode cX5_compute 70 = .ok (.iconst 0, 1)) ?_
              refine g_ireturn hF hQ (by decide +kernel : decode cX5_compute 71 = .ok (.ireturn, 1)) ?_
              exact ⟨rfl, rfl⟩
        · skip
          refine g_iconst hF (by decide +kernel : decode cX5_compute 24 = .ok (.iconst 1, 1)) ?_
          refine g_goto hF (tgt := 29) (by decide +kernel : decode cX5_compute 25 = .ok (.goto 4, 3)) (by decide) ?_
          refine g_istore hF (by decide +kernel : decode cX5_compute 29 = .ok (.istore 4, 2)) (by decide) ?_
          refine g_aload_n hF (by decide +kernel : decode cX5_compute 31 = .ok (.aload_n 0, 1)) rfl ?_
          refine g_aload_n hF (by decide +kernel : decode cX5_compute 32 = .ok (.aload_n 0, 1)) rfl ?_
          refine g_iload_n hF (by decide +kernel : decode cX5_compute 33 = .ok (.iload_n 1, 1)) rfl ?_
          refine g_iload_n hF (by decide +kernel : decode cX5_compute 34 = .ok (.iload_n 2, 1)) rfl ?_
          refine g_iconst hF (by decide +kernel : decode cX5_compute 35 = .ok (.iconst 0, 1)) ?_
          refine g_iconst hF (by decide +kernel : decode cX5_compute 36 = .ok (.iconst 0, 1)) ?_
          refine g_callV hF lkX5_49 (n1_X5_no X hX _ (by omega) (by omega) _ _ _ _) (by decide +kernel : decode cX5_compute 37 = .ok (.invokevirtual 49, 3)) (by decide) rfl rfl rfl rfl jok51 (Nat.le_of_ble_eq_true rfl) (fun v37 m37 h37 => ?_)
          obtain ⟨rfl, e37⟩ := h37
          obtain rfl := e37.symm
          refine g_if_le hF (tgt := 54) (by decide +kernel : decode cX5_compute 40 = .ok (.ifCond .le 14, 3)) (by decide) (by omega) (fun c40 => ?_) (fun c40 => ?_)
          · skip
            exact absurd c40 (by decide)
          · skip
            refine g_aload_n hF (by decide +kernel : decode cX5_compute 43 = .ok (.aload_n 0, 1)) rfl ?_
            refine g_iload_n hF (by decide +kernel : decode cX5_compute 44 = .ok (.iload_n 1, 1)) rfl ?_
            refine g_iload_n hF (by decide +kernel : decode cX5_compute 45 = .ok (.iload_n 2, 1)) rfl ?_
            refine g_iconst hF (by decide +kernel : decode cX5_compute 46 = .ok (.iconst 0, 1)) ?_
            refine g_iconst hF (by decide +kernel : decode cX5_compute 47 = .ok (.iconst 0, 1)) ?_
            refine g_callV hF lkX5_49 (n1_X5_no X hX _ (by omega) (by omega) _ _ _ _) (by decide +kernel : decode cX5_compute 48 = .ok (.invokevirtual 49, 3)) (by decide) rfl rfl rfl rfl jok51 (Nat.le_of_ble_eq_true rfl) (fun v48 m48 h48 => ?_)
            obtain ⟨rfl, e48⟩ := h48
            obtain rfl := e48.symm
            refine g_goto hF (tgt := 64) (by decide +kernel : decode cX5_compute 51 = .ok (.goto 13, 3)) (by decide) ?_
            refine g_callV hF lkX5_53 (n_X5_fails X hX _ (by decide) _) (by decide +kernel : decode cX5_compute 64 = .ok (.invokevirtual 53, 3)) (by decide) rfl rfl rfl rfl jok51 (Nat.le_of_ble_eq_true rfl) (fun v64 m64 h64 => ?_)
            obtain ⟨rfl, e64⟩ := h64
            obtain rfl := e64.symm
            refine g_if_eq hF (tgt := 72) (by decide +kernel : decode cX5_compute 67 = .ok (.ifCond .eq 5, 3)) (by decide) (by omega) (fun c67 => ?_) (fun c67 => ?_)
            · skip
              exact absurd c67 (by decide)
            · skip
              refine g_iconst hF (by decide +kernel : decode cX5_compute 70 = .ok (.iconst 0, 1)) ?_
              refine g_ireturn hF hQ (by decide +kernel : decode cX5_compute 71 = .ok (.ireturn, 1)) ?_
              exact ⟨rfl, rfl⟩
set_option maxHeartbeats 4000000 in
set_option maxRecDepth 100000 in
theorem n2_X5_compute (X : jX) (hX : jxok X) (s : Nat) (hs : s < 8) (k : Int) (jk : jr k) (h0 : Int) (jh : jr h0) (m : jM) (h : ¬ (num k ∧ wayC h0)) : Con X yX5_compute cX5_compute 7 (some .int) 8 [vR 2 51, vI s, vI k, vI h0] m (fun o m' => o = some (vI 0) ∧ m' = mset m 51 2 2) := by
  refine Con.of hX (by decide) (Nat.le_of_ble_eq_true rfl) (fun F hF hQ => ?_)
  refine g_iload_n hF (by decide +kernel : decode cX5_compute 0 = .ok (.iload_n 3, 1)) rfl ?_
  refine g_bipush hF (by decide +kernel : decode cX5_compute 1 = .ok (.bipush 105, 2)) (by decide) ?_
  refine g_icmp_eq hF (tgt := 24) (by decide +kernel : decode cX5_compute 3 = .ok (.if_icmp .eq 21, 3)) (by decide) (by omega) (by omega) (fun c3 => ?_) (fun c3 => ?_)
  · skip
    refine g_iconst hF (by decide +kernel : decode cX5_compute 24 = .ok (.iconst 1, 1)) ?_
    refine g_goto hF (tgt := 29) (by decide +kernel : decode cX5_compute 25 = .ok (.goto 4, 3)) (by decide) ?_
    refine g_istore hF (by decide +kernel : decode cX5_compute 29 = .ok (.istore 4, 2)) (by decide) ?_
    refine g_aload_n hF (by decide +kernel : decode cX5_compute 31 = .ok (.aload_n 0, 1)) rfl ?_
    refine g_aload_n hF (by decide +kernel : decode cX5_compute 32 = .ok (.aload_n 0, 1)) rfl ?_
    refine g_iload_n hF (by decide +kernel : decode cX5_compute 33 = .ok (.iload_n 1, 1)) rfl ?_
    refine g_iload_n hF (by decide +kernel : decode cX5_compute 34 = .ok (.iload_n 2, 1)) rfl ?_
    refine g_iconst hF (by decide +kernel : decode cX5_compute 35 = .ok (.iconst 0, 1)) ?_
    refine g_iconst hF (by decide +kernel : decode cX5_compute 36 = .ok (.iconst 0, 1)) ?_
    rcases Classical.em (num k) with s37 | s37
    · skip
      refine g_callV hF lkX5_49 (y_X5_no X hX _ (by omega) _ _ _ (by omega) (by omega) (by omega) ⟨s37, by unfold num; omega, by unfold num; omega⟩ _) (by decide +kernel : decode cX5_compute 37 = .ok (.invokevirtual 49, 3)) (by decide) rfl rfl rfl rfl jok51 (Nat.le_of_ble_eq_true rfl) (fun v37 m37 h37 => ?_)
      obtain ⟨rfl, e37⟩ := h37
      obtain rfl := e37.symm
      refine g_if_le hF (tgt := 54) (by decide +kernel : decode cX5_compute 40 = .ok (.ifCond .le 14, 3)) (by decide) (by omega) (fun c40 => ?_) (fun c40 => ?_)
      · skip
        refine g_iload hF (by decide +kernel : decode cX5_compute 54 = .ok (.iload 4, 2)) rfl ?_
        refine g_if_eq hF (tgt := 63) (by decide +kernel : decode cX5_compute 56 = .ok (.ifCond .eq 7, 3)) (by decide) (by omega) (fun c56 => ?_) (fun c56 => ?_)
        · skip
          exact absurd c56 (by decide)
        · skip
          exact absurd ⟨s37, by show wayC h0; omega⟩ h
      · skip
        exact absurd c40 (by decide)
    · skip
      refine g_callV hF lkX5_49 (n2_X5_no X hX _ (by omega) _ _ _ (by omega) (by omega) (by omega) (fun q => s37 q.1) _) (by decide +kernel : decode cX5_compute 37 = .ok (.invokevirtual 49, 3)) (by decide) rfl rfl rfl rfl jok51 (Nat.le_of_ble_eq_true rfl) (fun v37 m37 h37 => ?_)
      obtain ⟨rfl, e37⟩ := h37
      obtain rfl := e37.symm
      refine g_if_le hF (tgt := 54) (by decide +kernel : decode cX5_compute 40 = .ok (.ifCond .le 14, 3)) (by decide) (by omega) (fun c40 => ?_) (fun c40 => ?_)
      · skip
        exact absurd c40 (by decide)
      · skip
        refine g_aload_n hF (by decide +kernel : decode cX5_compute 43 = .ok (.aload_n 0, 1)) rfl ?_
        refine g_iload_n hF (by decide +kernel : decode cX5_compute 44 = .ok (.iload_n 1, 1)) rfl ?_
        refine g_iload_n hF (by decide +kernel : decode cX5_compute 45 = .ok (.iload_n 2, 1)) rfl ?_
        refine g_iconst hF (by decide +kernel : decode cX5_compute 46 = .ok (.iconst 0, 1)) ?_
        refine g_iconst hF (by decide +kernel : decode cX5_compute 47 = .ok (.iconst 0, 1)) ?_
        refine g_callV hF lkX5_49 (n2_X5_no X hX _ (by omega) _ _ _ (by omega) (by omega) (by omega) (fun q => s37 q.1) _) (by decide +kernel : decode cX5_compute 48 = .ok (.invokevirtual 49, 3)) (by decide) rfl rfl rfl rfl jok51 (Nat.le_of_ble_eq_true rfl) (fun v48 m48 h48 => ?_)
        obtain ⟨rfl, e48⟩ := h48
        obtain rfl := e48.symm
        refine g_goto hF (tgt := 64) (by decide +kernel : decode cX5_compute 51 = .ok (.goto 13, 3)) (by decide) ?_
        refine g_callV hF lkX5_53 (n_X5_fails X hX _ (by decide) _) (by decide +kernel : decode cX5_compute 64 = .ok (.invokevirtual 53, 3)) (by decide) rfl rfl rfl rfl jok51 (Nat.le_of_ble_eq_true rfl) (fun v64 m64 h64 => ?_)
        obtain ⟨rfl, e64⟩ := h64
        obtain rfl := e64.symm
        refine g_if_eq hF (tgt := 72) (by decide +kernel : decode cX5_compute 67 = .ok (.ifCond .eq 5, 3)) (by decide) (by omega) (fun c67 => ?_) (fun c67 => ?_)
        · skip
          exact absurd c67 (by decide)
        · skip
          refine g_iconst hF (by decide +kernel : decode cX5_compute 70 = .ok (.iconst 0, 1)) ?_
          refine g_ireturn hF hQ (by decide +kernel : decode cX5_compute 71 = .ok (.ireturn, 1)) ?_
          exact ⟨rfl, rfl⟩
  · skip
    refine g_iload_n hF (by decide +kernel : decode cX5_compute 6 = .ok (.iload_n 3, 1)) rfl ?_
    refine g_bipush hF (by decide +kernel : decode cX5_compute 7 = .ok (.bipush 100, 2)) (by decide) ?_
    refine g_icmp_eq hF (tgt := 24) (by decide +kernel : decode cX5_compute 9 = .ok (.if_icmp .eq 15, 3)) (by decide) (by omega) (by omega) (fun c9 => ?_) (fun c9 => ?_)
    · skip
      refine g_iconst hF (by decide +kernel : decode cX5_compute 24 = .ok (.iconst 1, 1)) ?_
      refine g_goto hF (tgt := 29) (by decide +kernel : decode cX5_compute 25 = .ok (.goto 4, 3)) (by decide) ?_
      refine g_istore hF (by decide +kernel : decode cX5_compute 29 = .ok (.istore 4, 2)) (by decide) ?_
      refine g_aload_n hF (by decide +kernel : decode cX5_compute 31 = .ok (.aload_n 0, 1)) rfl ?_
      refine g_aload_n hF (by decide +kernel : decode cX5_compute 32 = .ok (.aload_n 0, 1)) rfl ?_
      refine g_iload_n hF (by decide +kernel : decode cX5_compute 33 = .ok (.iload_n 1, 1)) rfl ?_
      refine g_iload_n hF (by decide +kernel : decode cX5_compute 34 = .ok (.iload_n 2, 1)) rfl ?_
      refine g_iconst hF (by decide +kernel : decode cX5_compute 35 = .ok (.iconst 0, 1)) ?_
      refine g_iconst hF (by decide +kernel : decode cX5_compute 36 = .ok (.iconst 0, 1)) ?_
      rcases Classical.em (num k) with s37 | s37
      · skip
        refine g_callV hF lkX5_49 (y_X5_no X hX _ (by omega) _ _ _ (by omega) (by omega) (by omega) ⟨s37, by unfold num; omega, by unfold num; omega⟩ _) (by decide +kernel : decode cX5_compute 37 = .ok (.invokevirtual 49, 3)) (by decide) rfl rfl rfl rfl jok51 (Nat.le_of_ble_eq_true rfl) (fun v37 m37 h37 => ?_)
        obtain ⟨rfl, e37⟩ := h37
        obtain rfl := e37.symm
        refine g_if_le hF (tgt := 54) (by decide +kernel : decode cX5_compute 40 = .ok (.ifCond .le 14, 3)) (by decide) (by omega) (fun c40 => ?_) (fun c40 => ?_)
        · skip
          refine g_iload hF (by decide +kernel : decode cX5_compute 54 = .ok (.iload 4, 2)) rfl ?_
          refine g_if_eq hF (tgt := 63) (by decide +kernel : decode cX5_compute 56 = .ok (.ifCond .eq 7, 3)) (by decide) (by omega) (fun c56 => ?_) (fun c56 => ?_)
          · skip
            exact absurd c56 (by decide)
          · skip
            exact absurd ⟨s37, by show wayC h0; omega⟩ h
        · skip
          exact absurd c40 (by decide)
      · skip
        refine g_callV hF lkX5_49 (n2_X5_no X hX _ (by omega) _ _ _ (by omega) (by omega) (by omega) (fun q => s37 q.1) _) (by decide +kernel : decode cX5_compute 37 = .ok (.invokevirtual 49, 3)) (by decide) rfl rfl rfl rfl jok51 (Nat.le_of_ble_eq_true rfl) (fun v37 m37 h37 => ?_)
        obtain ⟨rfl, e37⟩ := h37
        obtain rfl := e37.symm
        refine g_if_le hF (tgt := 54) (by decide +kernel : decode cX5_compute 40 = .ok (.ifCond .le 14, 3)) (by decide) (by omega) (fun c40 => ?_) (fun c40 => ?_)
        · skip
          exact absurd c40 (by decide)
        · skip
          refine g_aload_n hF (by decide +kernel : decode cX5_compute 43 = .ok (.aload_n 0, 1)) rfl ?_
          refine g_iload_n hF (by decide +kernel : decode cX5_compute 44 = .ok (.iload_n 1, 1)) rfl ?_
          refine g_iload_n hF (by decide +kernel : decode cX5_compute 45 = .ok (.iload_n 2, 1)) rfl ?_
          refine g_iconst hF (by decide +kernel : decode cX5_compute 46 = .ok (.iconst 0, 1)) ?_
          refine g_iconst hF (by decide +kernel : decode cX5_compute 47 = .ok (.iconst 0, 1)) ?_
          refine g_callV hF lkX5_49 (n2_X5_no X hX _ (by omega) _ _ _ (by omega) (by omega) (by omega) (fun q => s37 q.1) _) (by decide +kernel : decode cX5_compute 48 = .ok (.invokevirtual 49, 3)) (by decide) rfl rfl rfl rfl jok51 (Nat.le_of_ble_eq_true rfl) (fun v48 m48 h48 => ?_)
          obtain ⟨rfl, e48⟩ := h48
          obtain rfl := e48.symm
          refine g_goto hF (tgt := 64) (by decide +kernel : decode cX5_compute 51 = .ok (.goto 13, 3)) (by decide) ?_
          refine g_callV hF lkX5_53 (n_X5_fails X hX _ (by decide) _) (by decide +kernel : decode cX5_compute 64 = .ok (.invokevirtual 53, 3)) (by decide) rfl rfl rfl rfl jok51 (Nat.le_of_ble_eq_true rfl) (fun v64 m64 h64 => ?_)
          obtain ⟨rfl, e64⟩ := h64
          obtain rfl := e64.symm
          refine g_if_eq hF (tgt := 72) (by decide +kernel : decode cX5_compute 67 = .ok (.ifCond .eq 5, 3)) (by decide) (by omega) (fun c67 => ?_) (fun c67 => ?_)
          · skip
            exact absurd c67 (by decide)
          · skip
            refine g_iconst hF (by decide +kernel : decode cX5_compute 70 = .ok (.iconst 0, 1)) ?_
            refine g_ireturn hF hQ (by decide +kernel : decode cX5_compute 71 = .ok (.ireturn, 1)) ?_
            exact ⟨rfl, rfl⟩
    · skip
      refine g_iload_n hF (by decide +kernel : decode cX5_compute 12 = .ok (.iload_n 3, 1)) rfl ?_
      refine g_bipush hF (by decide +kernel : decode cX5_compute 13 = .ok (.bipush 102, 2)) (by decide) ?_
      refine g_icmp_eq hF (tgt := 24) (by decide +kernel : decode cX5_compute 15 = .ok (.if_icmp .eq 9, 3)) (by decide) (by omega) (by omega) (fun c15 => ?_) (fun c15 => ?_)
      · skip
        refine g_iconst hF (by decide +kernel : decode cX5_compute 24 = .ok (.iconst 1, 1)) ?_
        refine g_goto hF (tgt := 29) (by decide +kernel : decode cX5_compute 25 = .ok (.goto 4, 3)) (by decide) ?_
        refine g_istore hF (by decide +kernel : decode cX5_compute 29 = .ok (.istore 4, 2)) (by decide) ?_
        refine g_aload_n hF (by decide +kernel : decode cX5_compute 31 = .ok (.aload_n 0, 1)) rfl ?_
        refine g_aload_n hF (by decide +kernel : decode cX5_compute 32 = .ok (.aload_n 0, 1)) rfl ?_
        refine g_iload_n hF (by decide +kernel : decode cX5_compute 33 = .ok (.iload_n 1, 1)) rfl ?_
        refine g_iload_n hF (by decide +kernel : decode cX5_compute 34 = .ok (.iload_n 2, 1)) rfl ?_
        refine g_iconst hF (by decide +kernel : decode cX5_compute 35 = .ok (.iconst 0, 1)) ?_
        refine g_iconst hF (by decide +kernel : decode cX5_compute 36 = .ok (.iconst 0, 1)) ?_
        rcases Classical.em (num k) with s37 | s37
        · skip
          refine g_callV hF lkX5_49 (y_X5_no X hX _ (by omega) _ _ _ (by omega) (by omega) (by omega) ⟨s37, by unfold num; omega, by unfold num; omega⟩ _) (by decide +kernel : decode cX5_compute 37 = .ok (.invokevirtual 49, 3)) (by decide) rfl rfl rfl rfl jok51 (Nat.le_of_ble_eq_true rfl) (fun v37 m37 h37 => ?_)
          obtain ⟨rfl, e37⟩ := h37
          obtain rfl := e37.symm
          refine g_if_le hF (tgt := 54) (by decide +kernel : decode cX5_compute 40 = .ok (.ifCond .le 14, 3)) (by decide) (by omega) (fun c40 => ?_) (fun c40 => ?_)
          · skip
            refine g_iload hF (by decide +kernel : decode cX5_compute 54 = .ok (.iload 4, 2)) rfl ?_
            refine g_if_eq hF (tgt := 63) (by decide +kernel : decode cX5_compute 56 = .ok (.ifCond .eq 7, 3)) (by decide) (by omega) (fun c56 => ?_) (fun c56 => ?_)
            · skip
              exact absurd c56 (by decide)
            · skip
              exact absurd ⟨s37, by show wayC h0; omega⟩ h
          · skip
            exact absurd c40 (by decide)
        · skip
          refine g_callV hF lkX5_49 (n2_X5_no X hX _ (by omega) _ _ _ (by omega) (by omega) (by omega) (fun q => s37 q.1) _) (by decide +kernel : decode cX5_compute 37 = .ok (.invokevirtual 49, 3)) (by decide) rfl rfl rfl rfl jok51 (Nat.le_of_ble_eq_true rfl) (fun v37 m37 h37 => ?_)
          obtain ⟨rfl, e37⟩ := h37
          obtain rfl := e37.symm
          refine g_if_le hF (tgt := 54) (by decide +kernel : decode cX5_compute 40 = .ok (.ifCond .le 14, 3)) (by decide) (by omega) (fun c40 => ?_) (fun c40 => ?_)
          · skip
            exact absurd c40 (by decide)
          · skip
            refine g_aload_n hF (by decide +kernel : decode cX5_compute 43 = .ok (.aload_n 0, 1)) rfl ?_
            refine g_iload_n hF (by decide +kernel : decode cX5_compute 44 = .ok (.iload_n 1, 1)) rfl ?_
            refine g_iload_n hF (by decide +kernel : decode cX5_compute 45 = .ok (.iload_n 2, 1)) rfl ?_
            refine g_iconst hF (by decide +kernel : decode cX5_compute 46 = .ok (.iconst 0, 1)) ?_
            refine g_iconst hF (by decide +kernel : decode cX5_compute 47 = .ok (.iconst 0, 1)) ?_
            refine g_callV hF lkX5_49 (n2_X5_no X hX _ (by omega) _ _ _ (by omega) (by omega) (by omega) (fun q => s37 q.1) _) (by decide +kernel : decode cX5_compute 48 = .ok (.invokevirtual 49, 3)) (by decide) rfl rfl rfl rfl jok51 (Nat.le_of_ble_eq_true rfl) (fun v48 m48 h48 => ?_)
            obtain ⟨rfl, e48⟩ := h48
            obtain rfl := e48.symm
            refine g_goto hF (tgt := 64) (by decide +kernel : decode cX5_compute 51 = .ok (.goto 13, 3)) (by decide) ?_
            refine g_callV hF lkX5_53 (n_X5_fails X hX _ (by decide) _) (by decide +kernel : decode cX5_compute 64 = .ok (.invokevirtual 53, 3)) (by decide) rfl rfl rfl rfl jok51 (Nat.le_of_ble_eq_true rfl) (fun v64 m64 h64 => ?_)
            obtain ⟨rfl, e64⟩ := h64
            obtain rfl := e64.symm
            refine g_if_eq hF (tgt := 72) (by decide +kernel : decode cX5_compute 67 = .ok (.ifCond .eq 5, 3)) (by decide) (by omega) (fun c67 => ?_) (fun c67 => ?_)
            · skip
              exact absurd c67 (by decide)
            · skip
              refine g_iconst hF (by decide +kernel : decode cX5_compute 70 = .ok (.iconst 0, 1)) ?_
              refine g_ireturn hF hQ (by decide +kernel : decode cX5_compute 71 = .ok (.ireturn, 1)) ?_
              exact ⟨rfl, rfl⟩
      · skip
        refine g_iload_n hF (by decide +kernel : decode cX5_compute 18 = .ok (.iload_n 3, 1)) rfl ?_
        refine g_bipush hF (by decide +kernel : decode cX5_compute 19 = .ok (.bipush 112, 2)) (by decide) ?_
        refine g_icmp_ne hF (tgt := 28) (by decide +kernel : decode cX5_compute 21 = .ok (.if_icmp .ne 7, 3)) (by decide) (by omega) (by omega) (fun c21 => ?_) (fun c21 => ?_)
        · skip
          refine g_iconst hF (by decide +kernel : decode cX5_compute 28 = .ok (.iconst 0, 1)) ?_
          refine g_istore hF (by decide +kernel : decode cX5_compute 29 = .ok (.istore 4, 2)) (by decide) ?_
          refine g_aload_n hF (by decide +kernel : decode cX5_compute 31 = .ok (.aload_n 0, 1)) rfl ?_
          refine g_aload_n hF (by decide +kernel : decode cX5_compute 32 = .ok (.aload_n 0, 1)) rfl ?_
          refine g_iload_n hF (by decide +kernel : decode cX5_compute 33 = .ok (.iload_n 1, 1)) rfl ?_
          refine g_iload_n hF (by decide +kernel : decode cX5_compute 34 = .ok (.iload_n 2, 1)) rfl ?_
          refine g_iconst hF (by decide +kernel : decode cX5_compute 35 = .ok (.iconst 0, 1)) ?_
          refine g_iconst hF (by decide +kernel : decode cX5_compute 36 = .ok (.iconst 0, 1)) ?_
          rcases Classical.em (num k) with s37 | s37
          · skip
            refine g_callV hF lkX5_49 (y_X5_no X hX _ (by omega) _ _ _ (by omega) (by omega) (by omega) ⟨s37, by unfold num; omega, by unfold num; omega⟩ _) (by decide +kernel : decode cX5_compute 37 = .ok (.invokevirtual 49, 3)) (by decide) rfl rfl rfl rfl jok51 (Nat.le_of_ble_eq_true rfl) (fun v37 m37 h37 => ?_)
            obtain ⟨rfl, e37⟩ := h37
            obtain rfl := e37.symm
            refine g_if_le hF (tgt := 54) (by decide +kernel : decode cX5_compute 40 = .ok (.ifCond .le 14, 3)) (by decide) (by omega) (fun c40 => ?_) (fun c40 => ?_)
            · skip
              refine g_iload hF (by decide +kernel : decode cX5_compute 54 = .ok (.iload 4, 2)) rfl ?_
              refine g_if_eq hF (tgt := 63) (by decide +kernel : decode cX5_compute 56 = .ok (.ifCond .eq 7, 3)) (by decide) (by omega) (fun c56 => ?_) (fun c56 => ?_)
              · skip
                refine g_iconst hF (by decide +kernel : decode cX5_compute 63 = .ok (.iconst 2, 1)) ?_
                refine g_callV hF lkX5_53 (n_X5_fails X hX _ (by decide) _) (by decide +kernel : decode cX5_compute 64 = .ok (.invokevirtual 53, 3)) (by decide) rfl rfl rfl rfl jok51 (Nat.le_of_ble_eq_true rfl) (fun v64 m64 h64 => ?_)
                obtain ⟨rfl, e64⟩ := h64
                obtain rfl := e64.symm
                refine g_if_eq hF (tgt := 72) (by decide +kernel : decode cX5_compute 67 = .ok (.ifCond .eq 5, 3)) (by decide) (by omega) (fun c67 => ?_) (fun c67 => ?_)
                · skip
                  exact absurd c67 (by decide)
                · skip
                  refine g_iconst hF (by decide +kernel : decode cX5_compute 70 = .ok (.iconst 0, 1)) ?_
                  refine g_ireturn hF hQ (by decide +kernel : decode cX5_compute 71 = .ok (.ireturn, 1)) ?_
                  exact ⟨rfl, rfl⟩
              · skip
                exact absurd c56 (by decide)
            · skip
              exact absurd c40 (by decide)
          · skip
            refine g_callV hF lkX5_49 (n2_X5_no X hX _ (by omega) _ _ _ (by omega) (by omega) (by omega) (fun q => s37 q.1) _) (by decide +kernel : decode cX5_compute 37 = .ok (.invokevirtual 49, 3)) (by decide) rfl rfl rfl rfl jok51 (Nat.le_of_ble_eq_true rfl) (fun v37 m37 h37 => ?_)
            obtain ⟨rfl, e37⟩ := h37
            obtain rfl := e37.symm
            refine g_if_le hF (tgt := 54) (by decide +kernel : decode cX5_compute 40 = .ok (.ifCond .le 14, 3)) (by decide) (by omega) (fun c40 => ?_) (fun c40 => ?_)
            · skip
              exact absurd c40 (by decide)
            · skip
              refine g_aload_n hF (by decide +kernel : decode cX5_compute 43 = .ok (.aload_n 0, 1)) rfl ?_
              refine g_iload_n hF (by decide +kernel : decode cX5_compute 44 = .ok (.iload_n 1, 1)) rfl ?_
              refine g_iload_n hF (by decide +kernel : decode cX5_compute 45 = .ok (.iload_n 2, 1)) rfl ?_
              refine g_iconst hF (by decide +kernel : decode cX5_compute 46 = .ok (.iconst 0, 1)) ?_
              refine g_iconst hF (by decide +kernel : decode cX5_compute 47 = .ok (.iconst 0, 1)) ?_
              refine g_callV hF lkX5_49 (n2_X5_no X hX _ (by omega) _ _ _ (by omega) (by omega) (by omega) (fun q => s37 q.1) _) (by decide +kernel : decode cX5_compute 48 = .ok (.invokevirtual 49, 3)) (by decide) rfl rfl rfl rfl jok51 (Nat.le_of_ble_eq_true rfl) (fun v48 m48 h48 => ?_)
              obtain ⟨rfl, e48⟩ := h48
              obtain rfl := e48.symm
              refine g_goto hF (tgt := 64) (by decide +kernel : decode cX5_compute 51 = .ok (.goto 13, 3)) (by decide) ?_
              refine g_callV hF lkX5_53 (n_X5_fails X hX _ (by decide) _) (by decide +kernel : decode cX5_compute 64 = .ok (.invokevirtual 53, 3)) (by decide) rfl rfl rfl rfl jok51 (Nat.le_of_ble_eq_true rfl) (fun v64 m64 h64 => ?_)
              obtain ⟨rfl, e64⟩ := h64
              obtain rfl := e64.symm
              refine g_if_eq hF (tgt := 72) (by decide +kernel : decode cX5_compute 67 = .ok (.ifCond .eq 5, 3)) (by decide) (by omega) (fun c67 => ?_) (fun c67 => ?_)
              · skip
                exact absurd c67 (by decide)
              · skip
                refine g_iconst hF (by decide +kernel : decode cX5_compute 70 = .ok (.iconst 0, 1)) ?_
                refine g_ireturn hF hQ (by decide +kernel : decode cX5_compute 71 = .ok (.ireturn, 1)) ?_
                exact ⟨rfl, rfl⟩
        · skip
          refine g_iconst hF (by decide +kernel : decode cX5_compute 24 = .ok (.iconst 1, 1)) ?_
          refine g_goto hF (tgt := 29) (by decide +kernel : decode cX5_compute 25 = .ok (.goto 4, 3)) (by decide) ?_
          refine g_istore hF (by decide +kernel : decode cX5_compute 29 = .ok (.istore 4, 2)) (by decide) ?_
          refine g_aload_n hF (by decide +kernel : decode cX5_compute 31 = .ok (.aload_n 0, 1)) rfl ?_
          refine g_aload_n hF (by decide +kernel : decode cX5_compute 32 = .ok (.aload_n 0, 1)) rfl ?_
          refine g_iload_n hF (by decide +kernel : decode cX5_compute 33 = .ok (.iload_n 1, 1)) rfl ?_
          refine g_iload_n hF (by decide +kernel : decode cX5_compute 34 = .ok (.iload_n 2, 1)) rfl ?_
          refine g_iconst hF (by decide +kernel : decode cX5_compute 35 = .ok (.iconst 0, 1)) ?_
          refine g_iconst hF (by decide +kernel : decode cX5_compute 36 = .ok (.iconst 0, 1)) ?_
          rcases Classical.em (num k) with s37 | s37
          · skip
            refine g_callV hF lkX5_49 (y_X5_no X hX _ (by omega) _ _ _ (by omega) (by omega) (by omega) ⟨s37, by unfold num; omega, by unfold num; omega⟩ _) (by decide +kernel : decode cX5_compute 37 = .ok (.invokevirtual 49, 3)) (by decide) rfl rfl rfl rfl jok51 (Nat.le_of_ble_eq_true rfl) (fun v37 m37 h37 => ?_)
            obtain ⟨rfl, e37⟩ := h37
            obtain rfl := e37.symm
            refine g_if_le hF (tgt := 54) (by decide +kernel : decode cX5_compute 40 = .ok (.ifCond .le 14, 3)) (by decide) (by omega) (fun c40 => ?_) (fun c40 => ?_)
            · skip
              refine g_iload hF (by decide +kernel : decode cX5_compute 54 = .ok (.iload 4, 2)) rfl ?_
              refine g_if_eq hF (tgt := 63) (by decide +kernel : decode cX5_compute 56 = .ok (.ifCond .eq 7, 3)) (by decide) (by omega) (fun c56 => ?_) (fun c56 => ?_)
              · skip
                exact absurd c56 (by decide)
              · skip
                exact absurd ⟨s37, by show wayC h0; omega⟩ h
            · skip
              exact absurd c40 (by decide)
          · skip
            refine g_callV hF lkX5_49 (n2_X5_no X hX _ (by omega) _ _ _ (by omega) (by omega) (by omega) (fun q => s37 q.1) _) (by decide +kernel : decode cX5_compute 37 = .ok (.invokevirtual 49, 3)) (by decide) rfl rfl rfl rfl jok51 (Nat.le_of_ble_eq_true rfl) (fun v37 m37 h37 => ?_)
            obtain ⟨rfl, e37⟩ := h37
            obtain rfl := e37.symm
            refine g_if_le hF (tgt := 54) (by decide +kernel : decode cX5_compute 40 = .ok (.ifCond .le 14, 3)) (by decide) (by omega) (fun c40 => ?_) (fun c40 => ?_)
            · skip
              exact absurd c40 (by decide)
            · skip
              refine g_aload_n hF (by decide +kernel : decode cX5_compute 43 = .ok (.aload_n 0, 1)) rfl ?_
              refine g_iload_n hF (by decide +kernel : decode cX5_compute 44 = .ok (.iload_n 1, 1)) rfl ?_
              refine g_iload_n hF (by decide +kernel : decode cX5_compute 45 = .ok (.iload_n 2, 1)) rfl ?_
              refine g_iconst hF (by decide +kernel : decode cX5_compute 46 = .ok (.iconst 0, 1)) ?_
              refine g_iconst hF (by decide +kernel : decode cX5_compute 47 = .ok (.iconst 0, 1)) ?_
              refine g_callV hF lkX5_49 (n2_X5_no X hX _ (by omega) _ _ _ (by omega) (by omega) (by omega) (fun q => s37 q.1) _) (by decide +kernel : decode cX5_compute 48 = .ok (.invokevirtual 49, 3)) (by decide) rfl rfl rfl rfl jok51 (Nat.le_of_ble_eq_true rfl) (fun v48 m48 h48 => ?_)
              obtain ⟨rfl, e48⟩ := h48
              obtain rfl := e48.symm
              refine g_goto hF (tgt := 64) (by decide +kernel : decode cX5_compute 51 = .ok (.goto 13, 3)) (by decide) ?_
              refine g_callV hF lkX5_53 (n_X5_fails X hX _ (by decide) _) (by decide +kernel : decode cX5_compute 64 = .ok (.invokevirtual 53, 3)) (by decide) rfl rfl rfl rfl jok51 (Nat.le_of_ble_eq_true rfl) (fun v64 m64 h64 => ?_)
              obtain ⟨rfl, e64⟩ := h64
              obtain rfl := e64.symm
              refine g_if_eq hF (tgt := 72) (by decide +kernel : decode cX5_compute 67 = .ok (.ifCond .eq 5, 3)) (by decide) (by omega) (fun c67 => ?_) (fun c67 => ?_)
              · skip
                exact absurd c67 (by decide)
              · skip
                refine g_iconst hF (by decide +kernel : decode cX5_compute 70 = .ok (.iconst 0, 1)) ?_
                refine g_ireturn hF hQ (by decide +kernel : decode cX5_compute 71 = .ok (.ireturn, 1)) ?_
                exact ⟨rfl, rfl⟩

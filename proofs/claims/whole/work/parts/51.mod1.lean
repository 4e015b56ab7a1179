set_option maxHeartbeats 4000000 in
set_option maxRecDepth 100000 in
theorem y_X5_in (X : jX) (hX : jxok X) (a lo hi : Int) (ja : jr a) (jl : jr lo) (jh : jr hi) (h : lo ≤ a ∧ a ≤ hi) (m : jM) : Con X yX5_in cX5_in 3 (some .boolean) 1 [vI a, vI lo, vI hi] m (fun o m' => o = some (vI 1) ∧ m' = m) := by
  refine Con.of hX (by decide) (Nat.le_of_ble_eq_true rfl) (fun F hF hQ => ?_)
  refine g_iload_n hF (by decide +kernel : decode cX5_in 0 = .ok (.iload_n 0, 1)) rfl ?_
  refine g_iload_n hF (by decide +kernel : decode cX5_in 1 = .ok (.iload_n 1, 1)) rfl ?_
  refine g_icmp_lt hF (tgt := 14) (by decide +kernel : decode cX5_in 2 = .ok (.if_icmp .lt 12, 3)) (by decide) (by omega) (by omega) (fun c2 => ?_) (fun c2 => ?_)
  · skip
    exact absurd c2 (by omega)
  · skip
    refine g_iload_n hF (by decide +kernel : decode cX5_in 5 = .ok (.iload_n 0, 1)) rfl ?_
    refine g_iload_n hF (by decide +kernel : decode cX5_in 6 = .ok (.iload_n 2, 1)) rfl ?_
    refine g_icmp_gt hF (tgt := 14) (by decide +kernel : decode cX5_in 7 = .ok (.if_icmp .gt 7, 3)) (by decide) (by omega) (by omega) (fun c7 => ?_) (fun c7 => ?_)
    · skip
      exact absurd c7 (by omega)
    · skip
      refine g_iconst hF (by decide +kernel : decode cX5_in 10 = .ok (.iconst 1, 1)) ?_
      refine g_goto hF (tgt := 15) (by decide +kernel : decode cX5_in 11 = .ok (.goto 4, 3)) (by decide) ?_
      refine g_zreturn hF hQ (by decide +kernel : decode cX5_in 15 = .ok (.ireturn, 1)) (by first | exact Or.inl rfl | exact Or.inr rfl | omega) ?_
      exact ⟨rfl, rfl⟩
set_option maxHeartbeats 4000000 in
set_option maxRecDepth 100000 in
theorem n_X5_in (X : jX) (hX : jxok X) (a lo hi : Int) (ja : jr a) (jl : jr lo) (jh : jr hi) (h : ¬ (lo ≤ a ∧ a ≤ hi)) (m : jM) : Con X yX5_in cX5_in 3 (some .boolean) 1 [vI a, vI lo, vI hi] m (fun o m' => o = some (vI 0) ∧ m' = m) := by
  refine Con.of hX (by decide) (Nat.le_of_ble_eq_true rfl) (fun F hF hQ => ?_)
  refine g_iload_n hF (by decide +kernel : decode cX5_in 0 = .ok (.iload_n 0, 1)) rfl ?_
  refine g_iload_n hF (by decide +kernel : decode cX5_in 1 = .ok (.iload_n 1, 1)) rfl ?_
  refine g_icmp_lt hF (tgt := 14) (by decide +kernel : decode cX5_in 2 = .ok (.if_icmp .lt 12, 3)) (by decide) (by omega) (by omega) (fun c2 => ?_) (fun c2 => ?_)
  · skip
    refine g_iconst hF (by decide +kernel : decode cX5_in 14 = .ok (.iconst 0, 1)) ?_
    refine g_zreturn hF hQ (by decide +kernel : decode cX5_in 15 = .ok (.ireturn, 1)) (by first | exact Or.inl rfl | exact Or.inr rfl | omega) ?_
    exact ⟨rfl, rfl⟩
  · skip
    refine g_iload_n hF (by decide +kernel : decode cX5_in 5 = .ok (.iload_n 0, 1)) rfl ?_
    refine g_iload_n hF (by decide +kernel : decode cX5_in 6 = .ok (.iload_n 2, 1)) rfl ?_
    refine g_icmp_gt hF (tgt := 14) (by decide +kernel : decode cX5_in 7 = .ok (.if_icmp .gt 7, 3)) (by decide) (by omega) (by omega) (fun c7 => ?_) (fun c7 => ?_)
    · skip
      refine g_iconst hF (by decide +kernel : decode cX5_in 14 = .ok (.iconst 0, 1)) ?_
      refine g_zreturn hF hQ (by decide +kernel : decode cX5_in 15 = .ok (.ireturn, 1)) (by first | exact Or.inl rfl | exact Or.inr rfl | omega) ?_
      exact ⟨rfl, rfl⟩
    · skip
      exact absurd c7 (by omega)
set_option maxHeartbeats 4000000 in
set_option maxRecDepth 100000 in
theorem y_X5_isSlot (X : jX) (hX : jxok X) (a : Int) (ja : jr a) (h : 0 ≤ a ∧ a < 8) (m : jM) : Con X yX5_isSlot cX5_isSlot 1 (some .boolean) 2 [vI a] m (fun o m' => o = some (vI 1) ∧ m' = m) := by
  refine Con.of hX (by decide) (Nat.le_of_ble_eq_true rfl) (fun F hF hQ => ?_)
  refine g_iload_n hF (by decide +kernel : decode cX5_isSlot 0 = .ok (.iload_n 0, 1)) rfl ?_
  refine g_iconst hF (by decide +kernel : decode cX5_isSlot 1 = .ok (.iconst 0, 1)) ?_
  refine g_bipush hF (by decide +kernel : decode cX5_isSlot 2 = .ok (.bipush 7, 2)) (by decide) ?_
  refine g_callS hF lkX5_35 (y_X5_in X hX _ _ _ (by omega) (by omega) (by omega) (by omega) _) (by decide +kernel : decode cX5_isSlot 4 = .ok (.invokestatic 35, 3)) (by decide) rfl rfl (Nat.le_of_ble_eq_true rfl) (fun v4 m4 h4 => ?_)
  obtain ⟨rfl, e4⟩ := h4
  obtain rfl := e4.symm
  refine g_zreturn hF hQ (by decide +kernel : decode cX5_isSlot 7 = .ok (.ireturn, 1)) (Or.inr rfl) ?_
  exact ⟨rfl, rfl⟩
set_option maxHeartbeats 4000000 in
set_option maxRecDepth 100000 in
theorem n_X5_isSlot (X : jX) (hX : jxok X) (a : Int) (ja : jr a) (h : ¬ (0 ≤ a ∧ a < 8)) (m : jM) : Con X yX5_isSlot cX5_isSlot 1 (some .boolean) 2 [vI a] m (fun o m' => o = some (vI 0) ∧ m' = m) := by
  refine Con.of hX (by decide) (Nat.le_of_ble_eq_true rfl) (fun F hF hQ => ?_)
  refine g_iload_n hF (by decide +kernel : decode cX5_isSlot 0 = .ok (.iload_n 0, 1)) rfl ?_
  refine g_iconst hF (by decide +kernel : decode cX5_isSlot 1 = .ok (.iconst 0, 1)) ?_
  refine g_bipush hF (by decide +kernel : decode cX5_isSlot 2 = .ok (.bipush 7, 2)) (by decide) ?_
  refine g_callS hF lkX5_35 (n_X5_in X hX _ _ _ (by omega) (by omega) (by omega) (by omega) _) (by decide +kernel : decode cX5_isSlot 4 = .ok (.invokestatic 35, 3)) (by decide) rfl rfl (Nat.le_of_ble_eq_true rfl) (fun v4 m4 h4 => ?_)
  obtain ⟨rfl, e4⟩ := h4
  obtain rfl := e4.symm
  refine g_zreturn hF hQ (by decide +kernel : decode cX5_isSlot 7 = .ok (.ireturn, 1)) (by first | exact Or.inl rfl | exact Or.inr rfl | omega) ?_
  exact ⟨rfl, rfl⟩
set_option maxHeartbeats 4000000 in
set_option maxRecDepth 100000 in
theorem y_X5_isNumber (X : jX) (hX : jxok X) (a : Int) (ja : jr a) (h : num a) (m : jM) : Con X yX5_isNumber cX5_isNumber 1 (some .boolean) 2 [vI a] m (fun o m' => o = some (vI 1) ∧ m' = m) := by
  refine Con.of hX (by decide) (Nat.le_of_ble_eq_true rfl) (fun F hF hQ => ?_)
  unfold num at h
  refine g_iload_n hF (by decide +kernel : decode cX5_isNumber 0 = .ok (.iload_n 0, 1)) rfl ?_
  refine g_iconst hF (by decide +kernel : decode cX5_isNumber 1 = .ok (.iconst (-1), 1)) ?_
  refine g_sipush hF (by decide +kernel : decode cX5_isNumber 2 = .ok (.sipush 255, 3)) (by decide) ?_
  refine g_callS hF lkX5_35 (y_X5_in X hX _ _ _ (by omega) (by omega) (by omega) (by omega) _) (by decide +kernel : decode cX5_isNumber 5 = .ok (.invokestatic 35, 3)) (by decide) rfl rfl (Nat.le_of_ble_eq_true rfl) (fun v5 m5 h5 => ?_)
  obtain ⟨rfl, e5⟩ := h5
  obtain rfl := e5.symm
  refine g_zreturn hF hQ (by decide +kernel : decode cX5_isNumber 8 = .ok (.ireturn, 1)) (by first | exact Or.inl rfl | exact Or.inr rfl | omega) ?_
  exact ⟨rfl, rfl⟩
set_option maxHeartbeats 4000000 in
set_option maxRecDepth 100000 in
theorem n_X5_isNumber (X : jX) (hX : jxok X) (a : Int) (ja : jr a) (h : ¬ num a) (m : jM) : Con X yX5_isNumber cX5_isNumber 1 (some .boolean) 2 [vI a] m (fun o m' => o = some (vI 0) ∧ m' = m) := by
  refine Con.of hX (by decide) (Nat.le_of_ble_eq_true rfl) (fun F hF hQ => ?_)
  unfold num at h
  refine g_iload_n hF (by decide +kernel : decode cX5_isNumber 0 = .ok (.iload_n 0, 1)) rfl ?_
  refine g_iconst hF (by decide +kernel : decode cX5_isNumber 1 = .ok (.iconst (-1), 1)) ?_
  refine g_sipush hF (by decide +kernel : decode cX5_isNumber 2 = .ok (.sipush 255, 3)) (by decide) ?_
  refine g_callS hF lkX5_35 (n_X5_in X hX _ _ _ (by omega) (by omega) (by omega) (by omega) _) (by decide +kernel : decode cX5_isNumber 5 = .ok (.invokestatic 35, 3)) (by decide) rfl rfl (Nat.le_of_ble_eq_true rfl) (fun v5 m5 h5 => ?_)
  obtain ⟨rfl, e5⟩ := h5
  obtain rfl := e5.symm
  refine g_zreturn hF hQ (by decide +kernel : decode cX5_isNumber 8 = .ok (.ireturn, 1)) (by first | exact Or.inl rfl | exact Or.inr rfl | omega) ?_
  exact ⟨rfl, rfl⟩
set_option maxHeartbeats 4000000 in
set_option maxRecDepth 100000 in
theorem y_X5_no (X : jX) (hX : jxok X) (s : Nat) (hs : s < 8) (a b c : Int) (ja : jr a) (jb : jr b) (jc : jr c) (h : num a ∧ num b ∧ num c) (m : jM) : Con X yX5_no cX5_no 5 (some .int) 3 [vR 2 51, vI s, vI a, vI b, vI c] m (fun o m' => o = some (vI 0) ∧ m' = m) := by
  refine Con.of hX (by decide) (Nat.le_of_ble_eq_true rfl) (fun F hF hQ => ?_)
  refine g_iload_n hF (by decide +kernel : decode cX5_no 0 = .ok (.iload_n 1, 1)) rfl ?_
  refine g_callS hF lkX5_42 (y_X5_isSlot X hX _ (by omega) (by omega) _) (by decide +kernel : decode cX5_no 1 = .ok (.invokestatic 42, 3)) (by decide) rfl rfl (Nat.le_of_ble_eq_true rfl) (fun v1 m1 h1 => ?_)
  obtain ⟨rfl, e1⟩ := h1
  obtain rfl := e1.symm
  refine g_if_ne hF (tgt := 11) (by decide +kernel : decode cX5_no 4 = .ok (.ifCond .ne 7, 3)) (by decide) (by omega) (fun c4 => ?_) (fun c4 => ?_)
  · skip
    refine g_iload_n hF (by decide +kernel : decode cX5_no 11 = .ok (.iload_n 2, 1)) rfl ?_
    refine g_callS hF lkX5_46 (y_X5_isNumber X hX _ (by omega) h.1 _) (by decide +kernel : decode cX5_no 12 = .ok (.invokestatic 46, 3)) (by decide) rfl rfl (Nat.le_of_ble_eq_true rfl) (fun v12 m12 h12 => ?_)
    obtain ⟨rfl, e12⟩ := h12
    obtain rfl := e12.symm
    refine g_if_eq hF (tgt := 37) (by decide +kernel : decode cX5_no 15 = .ok (.ifCond .eq 22, 3)) (by decide) (by omega) (fun c15 => ?_) (fun c15 => ?_)
    · skip
      exact absurd c15 (by decide)
    · skip
      refine g_iload_n hF (by decide +kernel : decode cX5_no 18 = .ok (.iload_n 3, 1)) rfl ?_
      refine g_callS hF lkX5_46 (y_X5_isNumber X hX _ (by omega) h.2.1 _) (by decide +kernel : decode cX5_no 19 = .ok (.invokestatic 46, 3)) (by decide) rfl rfl (Nat.le_of_ble_eq_true rfl) (fun v19 m19 h19 => ?_)
      obtain ⟨rfl, e19⟩ := h19
      obtain rfl := e19.symm
      refine g_if_eq hF (tgt := 37) (by decide +kernel : decode cX5_no 22 = .ok (.ifCond .eq 15, 3)) (by decide) (by omega) (fun c22 => ?_) (fun c22 => ?_)
      · skip
        exact absurd c22 (by decide)
      · skip
        refine g_iload hF (by decide +kernel : decode cX5_no 25 = .ok (.iload 4, 2)) rfl ?_
        refine g_callS hF lkX5_46 (y_X5_isNumber X hX _ (by omega) h.2.2 _) (by decide +kernel : decode cX5_no 27 = .ok (.invokestatic 46, 3)) (by decide) rfl rfl (Nat.le_of_ble_eq_true rfl) (fun v27 m27 h27 => ?_)
        obtain ⟨rfl, e27⟩ := h27
        obtain rfl := e27.symm
        refine g_if_eq hF (tgt := 37) (by decide +kernel : decode cX5_no 30 = .ok (.ifCond .eq 7, 3)) (by decide) (by omega) (fun c30 => ?_) (fun c30 => ?_)
        · skip
          exact absurd c30 (by decide)
        · skip
          refine g_iconst hF (by decide +kernel : decode cX5_no 33 = .ok (.iconst 0, 1)) ?_
          refine g_goto hF (tgt := 38) (by decide +kernel : decode cX5_no 34 = .ok (.goto 4, 3)) (by decide) ?_
          refine g_ireturn hF hQ (by decide +kernel : decode cX5_no 38 = .ok (.ireturn, 1)) ?_
          exact ⟨rfl, rfl⟩
  · skip
    exact absurd c4 (by decide)
set_option maxHeartbeats 4000000 in
set_option maxRecDepth 100000 in
theorem n1_X5_no (X : jX) (hX : jxok X) (s : Int) (js : jr s) (h : ¬ (0 ≤ s ∧ s < 8)) (a b c : Int) (m : jM) : Con X yX5_no cX5_no 5 (some .int) 3 [vR 2 51, vI s, vI a, vI b, vI c] m (fun o m' => o = some (vI 1) ∧ m' = m) := by
  refine Con.of hX (by decide) (Nat.le_of_ble_eq_true rfl) (fun F hF hQ => ?_)
  refine g_iload_n hF (by decide +kernel : decode cX5_no 0 = .ok (.iload_n 1, 1)) rfl ?_
  refine g_callS hF lkX5_42 (n_X5_isSlot X hX _ (by omega) (by omega) _) (by decide +kernel : decode cX5_no 1 = .ok (.invokestatic 42, 3)) (by decide) rfl rfl (Nat.le_of_ble_eq_true rfl) (fun v1 m1 h1 => ?_)
  obtain ⟨rfl, e1⟩ := h1
  obtain rfl := e1.symm
  refine g_if_ne hF (tgt := 11) (by decide +kernel : decode cX5_no 4 = .ok (.ifCond .ne 7, 3)) (by decide) (by omega) (fun c4 => ?_) (fun c4 => ?_)
  · skip
    exact absurd c4 (by decide)
  · skip
    refine g_iconst hF (by decide +kernel : decode cX5_no 7 = .ok (.iconst 1, 1)) ?_
    refine g_goto hF (tgt := 38) (by decide +kernel : decode cX5_no 8 = .ok (.goto 30, 3)) (by decide) ?_
    refine g_ireturn hF hQ (by decide +kernel : decode cX5_no 38 = .ok (.ireturn, 1)) ?_
    exact ⟨rfl, rfl⟩
set_option maxHeartbeats 4000000 in
set_option maxRecDepth 100000 in
theorem n2_X5_no (X : jX) (hX : jxok X) (s : Nat) (hs : s < 8) (a b c : Int) (ja : jr a) (jb : jr b) (jc : jr c) (h : ¬ (num a ∧ num b ∧ num c)) (m : jM) : Con X yX5_no cX5_no 5 (some .int) 3 [vR 2 51, vI s, vI a, vI b, vI c] m (fun o m' => o = some (vI 2) ∧ m' = m) := by
  refine Con.of hX (by decide) (Nat.le_of_ble_eq_true rfl) (fun F hF hQ => ?_)
  refine g_iload_n hF (by decide +kernel : decode cX5_no 0 = .ok (.iload_n 1, 1)) rfl ?_
  refine g_callS hF lkX5_42 (y_X5_isSlot X hX _ (by omega) (by omega) _) (by decide +kernel : decode cX5_no 1 = .ok (.invokestatic 42, 3)) (by decide) rfl rfl (Nat.le_of_ble_eq_true rfl) (fun v1 m1 h1 => ?_)
  obtain ⟨rfl, e1⟩ := h1
  obtain rfl := e1.symm
  refine g_if_ne hF (tgt := 11) (by decide +kernel : decode cX5_no 4 = .ok (.ifCond .ne 7, 3)) (by decide) (by omega) (fun c4 => ?_) (fun c4 => ?_)
  · skip
    refine g_iload_n hF (by decide +kernel : decode cX5_no 11 = .ok (.iload_n 2, 1)) rfl ?_
    rcases Classical.em (num a) with s12 | s12
    · skip
      refine g_callS hF lkX5_46 (y_X5_isNumber X hX _ (by omega) s12 _) (by decide +kernel : decode cX5_no 12 = .ok (.invokestatic 46, 3)) (by decide) rfl rfl (Nat.le_of_ble_eq_true rfl) (fun v12 m12 h12 => ?_)
      obtain ⟨rfl, e12⟩ := h12
      obtain rfl := e12.symm
      refine g_if_eq hF (tgt := 37) (by decide +kernel : decode cX5_no 15 = .ok (.ifCond .eq 22, 3)) (by decide) (by omega) (fun c15 => ?_) (fun c15 => ?_)
      · skip
        exact absurd c15 (by decide)
      · skip
        refine g_iload_n hF (by decide +kernel : decode cX5_no 18 = .ok (.iload_n 3, 1)) rfl ?_
        rcases Classical.em (num b) with s19 | s19
        · skip
          refine g_callS hF lkX5_46 (y_X5_isNumber X hX _ (by omega) s19 _) (by decide +kernel : decode cX5_no 19 = .ok (.invokestatic 46, 3)) (by decide) rfl rfl (Nat.le_of_ble_eq_true rfl) (fun v19 m19 h19 => ?_)
          obtain ⟨rfl, e19⟩ := h19
          obtain rfl := e19.symm
          refine g_if_eq hF (tgt := 37) (by decide +kernel : decode cX5_no 22 = .ok (.ifCond .eq 15, 3)) (by decide) (by omega) (fun c22 => ?_) (fun c22 => ?_)
          · skip
            exact absurd c22 (by decide)
          · skip
            refine g_iload hF (by decide +kernel : decode cX5_no 25 = .ok (.iload 4, 2)) rfl ?_
            refine g_callS hF lkX5_46 (n_X5_isNumber X hX _ (by omega) (fun q => h ⟨s12, s19, q⟩) _) (by decide +kernel : decode cX5_no 27 = .ok (.invokestatic 46, 3)) (by decide) rfl rfl (Nat.le_of_ble_eq_true rfl) (fun v27 m27 h27 => ?_)
            obtain ⟨rfl, e27⟩ := h27
            obtain rfl := e27.symm
            refine g_if_eq hF (tgt := 37) (by decide +kernel : decode cX5_no 30 = .ok (.ifCond .eq 7, 3)) (by decide) (by omega) (fun c30 => ?_) (fun c30 => ?_)
            · skip
              refine g_iconst hF (by decide +kernel : decode cX5_no 37 = .ok (.iconst 2, 1)) ?_
              refine g_ireturn hF hQ (by decide +kernel : decode cX5_no 38 = .ok (.ireturn, 1)) ?_
              exact ⟨rfl, rfl⟩
            · skip
              exact absurd c30 (by decide)
        · skip
          refine g_callS hF lkX5_46 (n_X5_isNumber X hX _ (by omega) s19 _) (by decide +kernel : decode cX5_no 19 = .ok (.invokestatic 46, 3)) (by decide) rfl rfl (Nat.le_of_ble_eq_true rfl) (fun v19 m19 h19 => ?_)
          obtain ⟨rfl, e19⟩ := h19
          obtain rfl := e19.symm
          refine g_if_eq hF (tgt := 37) (by decide +kernel : decode cX5_no 22 = .ok (.ifCond .eq 15, 3)) (by decide) (by omega) (fun c22 => ?_) (fun c22 => ?_)
          · skip
            refine g_iconst hF (by decide +kernel : decode cX5_no 37 = .ok (.iconst 2, 1)) ?_
            refine g_ireturn hF hQ (by decide +kernel : decode cX5_no 38 = .ok (.ireturn, 1)) ?_
            exact ⟨rfl, rfl⟩
          · skip
            exact absurd c22 (by decide)
    · skip
      refine g_callS hF lkX5_46 (n_X5_isNumber X hX _ (by omega) s12 _) (by decide +kernel : decode cX5_no 12 = .ok (.invokestatic 46, 3)) (by decide) rfl rfl (Nat.le_of_ble_eq_true rfl) (fun v12 m12 h12 => ?_)
      obtain ⟨rfl, e12⟩ := h12
      obtain rfl := e12.symm
      refine g_if_eq hF (tgt := 37) (by decide +kernel : decode cX5_no 15 = .ok (.ifCond .eq 22, 3)) (by decide) (by omega) (fun c15 => ?_) (fun c15 => ?_)
      · skip
        refine g_iconst hF (by decide +kernel : decode cX5_no 37 = .ok (.iconst 2, 1)) ?_
        refine g_ireturn hF hQ (by decide +kernel : decode cX5_no 38 = .ok (.ireturn, 1)) ?_
        exact ⟨rfl, rfl⟩
      · skip
        exact absurd c15 (by decide)
  · skip
    exact absurd c4 (by decide)
set_option maxHeartbeats 4000000 in
set_option maxRecDepth 100000 in
theorem y_X5_fails (X : jX) (hX : jxok X) (m : jM) : Con X yX5_fails cX5_fails 2 (some .boolean) 1 [vR 2 51, vI 0] m (fun o m' => o = some (vI 0) ∧ m' = mset m 51 2 0) := by
  refine Con.of hX (by decide) (Nat.le_of_ble_eq_true rfl) (fun F hF hQ => ?_)
  refine g_aload_n hF (by decide +kernel : decode cX5_fails 0 = .ok (.aload_n 0, 1)) rfl ?_
  refine g_iload_n hF (by decide +kernel : decode cX5_fails 1 = .ok (.iload_n 1, 1)) rfl ?_
  refine g_putC hF lkPX5_31 (by decide +kernel : decode cX5_fails 2 = .ok (.putfield 31, 3)) jok51 rfl rfl (Or.inl rfl) ?_
  refine g_iload_n hF (by decide +kernel : decode cX5_fails 5 = .ok (.iload_n 1, 1)) rfl ?_
  refine g_if_le hF (tgt := 13) (by decide +kernel : decode cX5_fails 6 = .ok (.ifCond .le 7, 3)) (by decide) (by omega) (fun c6 => ?_) (fun c6 => ?_)
  · skip
    refine g_iconst hF (by decide +kernel : decode cX5_fails 13 = .ok (.iconst 0, 1)) ?_
    refine g_zreturn hF hQ (by decide +kernel : decode cX5_fails 14 = .ok (.ireturn, 1)) (by first | exact Or.inl rfl | exact Or.inr rfl | omega) ?_
    exact ⟨rfl, rfl⟩
  · skip
    exact absurd c6 (by decide)
set_option maxHeartbeats 4000000 in
set_option maxRecDepth 100000 in
theorem n_X5_fails (X : jX) (hX : jxok X) (c : Int) (hc : 1 ≤ c ∧ c ≤ 3) (m : jM) : Con X yX5_fails cX5_fails 2 (some .boolean) 1 [vR 2 51, vI c] m (fun o m' => o = some (vI 1) ∧ m' = mset m 51 2 c) := by
  refine Con.of hX (by decide) (Nat.le_of_ble_eq_true rfl) (fun F hF hQ => ?_)
  refine g_aload_n hF (by decide +kernel : decode cX5_fails 0 = .ok (.aload_n 0, 1)) rfl ?_
  refine g_iload_n hF (by decide +kernel : decode cX5_fails 1 = .ok (.iload_n 1, 1)) rfl ?_
  refine g_putC hF lkPX5_31 (by decide +kernel : decode cX5_fails 2 = .ok (.putfield 31, 3)) jok51 rfl rfl (Or.inl rfl) ?_
  refine g_iload_n hF (by decide +kernel : decode cX5_fails 5 = .ok (.iload_n 1, 1)) rfl ?_
  refine g_if_le hF (tgt := 13) (by decide +kernel : decode cX5_fails 6 = .ok (.ifCond .le 7, 3)) (by decide) (by omega) (fun c6 => ?_) (fun c6 => ?_)
  · skip
    exact absurd c6 (by omega)
  · skip
    refine g_iconst hF (by decide +kernel : decode cX5_fails 9 = .ok (.iconst 1, 1)) ?_
    refine g_goto hF (tgt := 14) (by decide +kernel : decode cX5_fails 10 = .ok (.goto 4, 3)) (by decide) ?_
    refine g_zreturn hF hQ (by decide +kernel : decode cX5_fails 14 = .ok (.ireturn, 1)) (by first | exact Or.inl rfl | exact Or.inr rfl | omega) ?_
    exact ⟨rfl, rfl⟩
set_option maxHeartbeats 4000000 in
set_option maxRecDepth 100000 in
theorem c_X5_at (X : jX) (hX : jxok X) (s : Nat) (hs : s < 8) (k : Int) (hk : num k) (m : jM) : Con X yX5_at cX5_at 3 (some .int) 1 [vR 2 51, vI s, vI k] m (fun o m' => o = some (vI (mR m s (k + 1))) ∧ m' = m) := by
  refine Con.of hX (by decide) (Nat.le_of_ble_eq_true rfl) (fun F hF hQ => ?_)
  unfold num at hk
  refine g_aload_n hF (by decide +kernel : decode cX5_at 0 = .ok (.aload_n 0, 1)) rfl ?_
  refine g_getC hF lkX5_7 (by decide +kernel : decode cX5_at 1 = .ok (.getfield 7, 3)) jok51 rfl rfl ?_
  refine g_sipush hF (by decide +kernel : decode cX5_at 4 = .ok (.sipush 257, 3)) (by decide) ?_
  refine g_iload_n hF (by decide +kernel : decode cX5_at 7 = .ok (.iload_n 1, 1)) rfl ?_
  refine g_imul hF (by decide +kernel : decode cX5_at 8 = .ok (.imul, 1)) ?_
  refine g_iload_n hF (by decide +kernel : decode cX5_at 9 = .ok (.iload_n 2, 1)) rfl ?_
  refine g_iadd hF (by decide +kernel : decode cX5_at 10 = .ok (.iadd, 1)) ?_
  refine g_iconst hF (by decide +kernel : decode cX5_at 11 = .ok (.iconst 1, 1)) ?_
  refine g_iadd hF (by decide +kernel : decode cX5_at 12 = .ok (.iadd, 1)) ?_
  refine g_ldC hF (n := 2056) (by decide +kernel : decode cX5_at 13 = .ok (.iaload, 1)) jrr52 rfl (by omega) ?_
  refine g_ireturn hF hQ (by decide +kernel : decode cX5_at 14 = .ok (.ireturn, 1)) ?_
  exact ⟨by rw [show 257 * (s : Int) + k + 1 = 257 * (s : Int) + (k + 1) by omega]; rfl, rfl⟩
set_option maxHeartbeats 4000000 in
set_option maxRecDepth 100000 in
theorem c_X5_sets (X : jX) (hX : jxok X) (s : Nat) (hs : s < 8) (k v : Int) (hk : num k) (m : jM) : Con X yX5_sets cX5_sets 4 none 1 [vR 2 51, vI s, vI k, vI v] m (fun o m' => o = none ∧ m' = mw m s (fmark (mR m s) k v)) := by
  refine Con.of hX (by decide) (Nat.le_of_ble_eq_true rfl) (fun F hF hQ => ?_)
  have hk2 : -1 ≤ k ∧ k ≤ 255 := hk
  refine g_aload_n hF (by decide +kernel : decode cX5_sets 0 = .ok (.aload_n 0, 1)) rfl ?_
  refine g_getC hF lkX5_7 (by decide +kernel : decode cX5_sets 1 = .ok (.getfield 7, 3)) jok51 rfl rfl ?_
  refine g_sipush hF (by decide +kernel : decode cX5_sets 4 = .ok (.sipush 257, 3)) (by decide) ?_
  refine g_iload_n hF (by decide +kernel : decode cX5_sets 7 = .ok (.iload_n 1, 1)) rfl ?_
  refine g_imul hF (by decide +kernel : decode cX5_sets 8 = .ok (.imul, 1)) ?_
  refine g_iload_n hF (by decide +kernel : decode cX5_sets 9 = .ok (.iload_n 2, 1)) rfl ?_
  refine g_iadd hF (by decide +kernel : decode cX5_sets 10 = .ok (.iadd, 1)) ?_
  refine g_iconst hF (by decide +kernel : decode cX5_sets 11 = .ok (.iconst 1, 1)) ?_
  refine g_iadd hF (by decide +kernel : decode cX5_sets 12 = .ok (.iadd, 1)) ?_
  refine g_iload_n hF (by decide +kernel : decode cX5_sets 13 = .ok (.iload_n 3, 1)) rfl ?_
  refine g_stC hF (n := 2056) (by decide +kernel : decode cX5_sets 14 = .ok (.iastore, 1)) jrr52 rfl (by omega) ?_
  refine g_return hF hQ (by decide +kernel : decode cX5_sets 15 = .ok (.return_, 1)) ?_
  exact ⟨rfl, mset_mark rfl hk⟩
set_option maxHeartbeats 4000000 in
set_option maxRecDepth 100000 in
theorem c_X5_thrown (X : jX) (hX : jxok X) (m : jM) : Con X yX5_thrown cX5_thrown 1 (some .int) 1 [vR 2 51] m (fun o m' => o = some (vI (m 51 2)) ∧ m' = m) := by
  refine Con.of hX (by decide) (Nat.le_of_ble_eq_true rfl) (fun F hF hQ => ?_)
  refine g_aload_n hF (by decide +kernel : decode cX5_thrown 0 = .ok (.aload_n 0, 1)) rfl ?_
  refine g_getC hF lkX5_31 (by decide +kernel : decode cX5_thrown 1 = .ok (.getfield 31, 3)) jok51 rfl rfl ?_
  refine g_ireturn hF hQ (by decide +kernel : decode cX5_thrown 4 = .ok (.ireturn, 1)) ?_
  exact ⟨rfl, rfl⟩

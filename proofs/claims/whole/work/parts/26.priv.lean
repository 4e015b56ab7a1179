set_option maxHeartbeats 4000000 in
set_option maxRecDepth 100000 in
theorem c_X4_checkSlot (X : jX) (hX : jxok X) (a : Int) (hj : jr a) (h : 0 ≤ a ∧ a < 8) (m : jM) : Con X yX4_checkSlot cX4_checkSlot 1 none 1 [vI a] m (fun o m' => o = none ∧ m' = m) := by
  refine Con.of hX (by decide) (Nat.le_of_ble_eq_true rfl) (fun F hF hQ => ?_)
  refine g_iload_n hF (by decide +kernel : decode cX4_checkSlot 0 = .ok (.iload_n 0, 1)) rfl ?_
  refine g_if_lt hF (tgt := 10) (by decide +kernel : decode cX4_checkSlot 1 = .ok (.ifCond .lt 9, 3)) (by decide) (by omega) (fun c1 => ?_) (fun c1 => ?_)
  · skip
    exact absurd c1 (by omega)
  · skip
    refine g_iload_n hF (by decide +kernel : decode cX4_checkSlot 4 = .ok (.iload_n 0, 1)) rfl ?_
    refine g_bipush hF (by decide +kernel : decode cX4_checkSlot 5 = .ok (.bipush 8, 2)) (by decide) ?_
    refine g_icmp_lt hF (tgt := 20) (by decide +kernel : decode cX4_checkSlot 7 = .ok (.if_icmp .lt 13, 3)) (by decide) (by omega) (by omega) (fun c7 => ?_) (fun c7 => ?_)
    · skip
      refine g_return hF hQ (by decide +kernel : decode cX4_checkSlot 20 = .ok (.return_, 1)) ?_
      exact ⟨rfl, rfl⟩
    · skip
      exact absurd c7 (by omega)
set_option maxHeartbeats 4000000 in
set_option maxRecDepth 100000 in
theorem x_X4_checkSlot (X : jX) (hX : jxok X) (a : Int) (hj : jr a) (h : ¬ (0 ≤ a ∧ a < 8)) (m : jM) : ConX X yX4_checkSlot cX4_checkSlot 1 none 9 [vI a] m "java/lang/IndexOutOfBoundsException" := by
  refine ConX.of hX (by decide) (Nat.le_of_ble_eq_true rfl) (fun F hF hQ => ?_)
  refine g_iload_n hF (by decide +kernel : decode cX4_checkSlot 0 = .ok (.iload_n 0, 1)) rfl ?_
  refine g_if_lt hF (tgt := 10) (by decide +kernel : decode cX4_checkSlot 1 = .ok (.ifCond .lt 9, 3)) (by decide) (by omega) (fun c1 => ?_) (fun c1 => ?_)
  · skip
    exact g_throw hF hQ th_ioob (text := "no such slot") (by decide) (by decide +kernel : decode cX4_checkSlot 10 = .ok (.new 253, 3)) (by decide +kernel : decode cX4_checkSlot 13 = .ok (.dup, 1)) (by decide +kernel : decode cX4_checkSlot 14 = .ok (.ldc 255, 2)) (by decide +kernel : decode cX4_checkSlot 16 = .ok (.invokespecial 257, 3)) (by decide +kernel : decode cX4_checkSlot 19 = .ok (.athrow, 1)) (by decide) (by decide)
  · skip
    refine g_iload_n hF (by decide +kernel : decode cX4_checkSlot 4 = .ok (.iload_n 0, 1)) rfl ?_
    refine g_bipush hF (by decide +kernel : decode cX4_checkSlot 5 = .ok (.bipush 8, 2)) (by decide) ?_
    refine g_icmp_lt hF (tgt := 20) (by decide +kernel : decode cX4_checkSlot 7 = .ok (.if_icmp .lt 13, 3)) (by decide) (by omega) (by omega) (fun c7 => ?_) (fun c7 => ?_)
    · skip
      exact absurd c7 (by omega)
    · skip
      exact g_throw hF hQ th_ioob (text := "no such slot") (by decide) (by decide +kernel : decode cX4_checkSlot 10 = .ok (.new 253, 3)) (by decide +kernel : decode cX4_checkSlot 13 = .ok (.dup, 1)) (by decide +kernel : decode cX4_checkSlot 14 = .ok (.ldc 255, 2)) (by decide +kernel : decode cX4_checkSlot 16 = .ok (.invokespecial 257, 3)) (by decide +kernel : decode cX4_checkSlot 19 = .ok (.athrow, 1)) (by decide) (by decide)
set_option maxHeartbeats 4000000 in
set_option maxRecDepth 100000 in
theorem c_X4_checkRange (X : jX) (hX : jxok X) (a lo hi : Int) (hj : jr a) (hl : jr lo) (hh : jr hi) (h : lo ≤ a ∧ a ≤ hi) (m : jM) : Con X yX4_checkRange cX4_checkRange 3 none 1 [vI a, vI lo, vI hi] m (fun o m' => o = none ∧ m' = m) := by
  refine Con.of hX (by decide) (Nat.le_of_ble_eq_true rfl) (fun F hF hQ => ?_)
  refine g_iload_n hF (by decide +kernel : decode cX4_checkRange 0 = .ok (.iload_n 0, 1)) rfl ?_
  refine g_iload_n hF (by decide +kernel : decode cX4_checkRange 1 = .ok (.iload_n 1, 1)) rfl ?_
  refine g_icmp_lt hF (tgt := 10) (by decide +kernel : decode cX4_checkRange 2 = .ok (.if_icmp .lt 8, 3)) (by decide) (by omega) (by omega) (fun c2 => ?_) (fun c2 => ?_)
  · skip
    exact absurd c2 (by omega)
  · skip
    refine g_iload_n hF (by decide +kernel : decode cX4_checkRange 5 = .ok (.iload_n 0, 1)) rfl ?_
    refine g_iload_n hF (by decide +kernel : decode cX4_checkRange 6 = .ok (.iload_n 2, 1)) rfl ?_
    refine g_icmp_le hF (tgt := 21) (by decide +kernel : decode cX4_checkRange 7 = .ok (.if_icmp .le 14, 3)) (by decide) (by omega) (by omega) (fun c7 => ?_) (fun c7 => ?_)
    · skip
      refine g_return hF hQ (by decide +kernel : decode cX4_checkRange 21 = .ok (.return_, 1)) ?_
      exact ⟨rfl, rfl⟩
    · skip
      exact absurd c7 (by omega)
set_option maxHeartbeats 4000000 in
set_option maxRecDepth 100000 in
theorem x_X4_checkRange (X : jX) (hX : jxok X) (a lo hi : Int) (hj : jr a) (hl : jr lo) (hh : jr hi) (h : ¬ (lo ≤ a ∧ a ≤ hi)) (m : jM) : ConX X yX4_checkRange cX4_checkRange 3 none 9 [vI a, vI lo, vI hi] m "java/lang/IllegalArgumentException" := by
  refine ConX.of hX (by decide) (Nat.le_of_ble_eq_true rfl) (fun F hF hQ => ?_)
  refine g_iload_n hF (by decide +kernel : decode cX4_checkRange 0 = .ok (.iload_n 0, 1)) rfl ?_
  refine g_iload_n hF (by decide +kernel : decode cX4_checkRange 1 = .ok (.iload_n 1, 1)) rfl ?_
  refine g_icmp_lt hF (tgt := 10) (by decide +kernel : decode cX4_checkRange 2 = .ok (.if_icmp .lt 8, 3)) (by decide) (by omega) (by omega) (fun c2 => ?_) (fun c2 => ?_)
  · skip
    exact g_throwW hF hQ th_iae (text := "a number is out of range") (by decide) (by decide +kernel : decode cX4_checkRange 10 = .ok (.new 258, 3)) (by decide +kernel : decode cX4_checkRange 13 = .ok (.dup, 1)) (by decide +kernel : decode cX4_checkRange 14 = .ok (.ldc_w 260, 3)) (by decide +kernel : decode cX4_checkRange 17 = .ok (.invokespecial 262, 3)) (by decide +kernel : decode cX4_checkRange 20 = .ok (.athrow, 1)) (by decide) (by decide)
  · skip
    refine g_iload_n hF (by decide +kernel : decode cX4_checkRange 5 = .ok (.iload_n 0, 1)) rfl ?_
    refine g_iload_n hF (by decide +kernel : decode cX4_checkRange 6 = .ok (.iload_n 2, 1)) rfl ?_
    refine g_icmp_le hF (tgt := 21) (by decide +kernel : decode cX4_checkRange 7 = .ok (.if_icmp .le 14, 3)) (by decide) (by omega) (by omega) (fun c7 => ?_) (fun c7 => ?_)
    · skip
      exact absurd c7 (by omega)
    · skip
      exact g_throwW hF hQ th_iae (text := "a number is out of range") (by decide) (by decide +kernel : decode cX4_checkRange 10 = .ok (.new 258, 3)) (by decide +kernel : decode cX4_checkRange 13 = .ok (.dup, 1)) (by decide +kernel : decode cX4_checkRange 14 = .ok (.ldc_w 260, 3)) (by decide +kernel : decode cX4_checkRange 17 = .ok (.invokespecial 262, 3)) (by decide +kernel : decode cX4_checkRange 20 = .ok (.athrow, 1)) (by decide) (by decide)
set_option maxHeartbeats 4000000 in
set_option maxRecDepth 100000 in
theorem c_X4_checkNumber (X : jX) (hX : jxok X) (a : Int) (hj : jr a) (h : num a) (m : jM) : Con X yX4_checkNumber cX4_checkNumber 1 none 2 [vI a] m (fun o m' => o = none ∧ m' = m) := by
  refine Con.of hX (by decide) (Nat.le_of_ble_eq_true rfl) (fun F hF hQ => ?_)
  unfold num at h
  refine g_iload_n hF (by decide +kernel : decode cX4_checkNumber 0 = .ok (.iload_n 0, 1)) rfl ?_
  refine g_iconst hF (by decide +kernel : decode cX4_checkNumber 1 = .ok (.iconst (-1), 1)) ?_
  refine g_sipush hF (by decide +kernel : decode cX4_checkNumber 2 = .ok (.sipush 255, 3)) (by decide) ?_
  refine g_callS hF lkX4_70 (c_X4_checkRange X hX _ _ _ (by omega) (by omega) (by omega) (by omega) _) (by decide +kernel : decode cX4_checkNumber 5 = .ok (.invokestatic 70, 3)) (by decide) rfl rfl (Nat.le_of_ble_eq_true rfl) (fun v5 m5 h5 => ?_)
  obtain ⟨rfl, e5⟩ := h5
  obtain rfl := e5.symm
  refine g_return hF hQ (by decide +kernel : decode cX4_checkNumber 8 = .ok (.return_, 1)) ?_
  exact ⟨rfl, rfl⟩
set_option maxHeartbeats 4000000 in
set_option maxRecDepth 100000 in
theorem x_X4_checkNumber (X : jX) (hX : jxok X) (a : Int) (hj : jr a) (h : ¬ num a) (m : jM) : ConX X yX4_checkNumber cX4_checkNumber 1 none 10 [vI a] m "java/lang/IllegalArgumentException" := by
  refine ConX.of hX (by decide) (Nat.le_of_ble_eq_true rfl) (fun F hF hQ => ?_)
  unfold num at h
  refine g_iload_n hF (by decide +kernel : decode cX4_checkNumber 0 = .ok (.iload_n 0, 1)) rfl ?_
  refine g_iconst hF (by decide +kernel : decode cX4_checkNumber 1 = .ok (.iconst (-1), 1)) ?_
  refine g_sipush hF (by decide +kernel : decode cX4_checkNumber 2 = .ok (.sipush 255, 3)) (by decide) ?_
  exact g_callXS hF hQ lkX4_70 (x_X4_checkRange X hX _ _ _ (by omega) (by omega) (by omega) (by omega) _) (by decide +kernel : decode cX4_checkNumber 5 = .ok (.invokestatic 70, 3)) (by decide) rfl rfl (Nat.le_of_ble_eq_true rfl) 
set_option maxHeartbeats 4000000 in
set_option maxRecDepth 100000 in
theorem c_X4_checkWay (X : jX) (hX : jxok X) (a : Int) (hj : jr a) (h : ¬ a = 0) (m : jM) : Con X yX4_checkWay cX4_checkWay 1 none 1 [vI a] m (fun o m' => o = none ∧ m' = m) := by
  refine Con.of hX (by decide) (Nat.le_of_ble_eq_true rfl) (fun F hF hQ => ?_)
  refine g_iload_n hF (by decide +kernel : decode cX4_checkWay 0 = .ok (.iload_n 0, 1)) rfl ?_
  refine g_if_ne hF (tgt := 15) (by decide +kernel : decode cX4_checkWay 1 = .ok (.ifCond .ne 14, 3)) (by decide) (by omega) (fun c1 => ?_) (fun c1 => ?_)
  · skip
    refine g_return hF hQ (by decide +kernel : decode cX4_checkWay 15 = .ok (.return_, 1)) ?_
    exact ⟨rfl, rfl⟩
  · skip
    exact absurd c1 h
set_option maxHeartbeats 4000000 in
set_option maxRecDepth 100000 in
theorem x_X4_checkWay (X : jX) (hX : jxok X) (a : Int) (hj : jr a) (h : a = 0) (m : jM) : ConX X yX4_checkWay cX4_checkWay 1 none 9 [vI a] m "java/lang/IllegalArgumentException" := by
  refine ConX.of hX (by decide) (Nat.le_of_ble_eq_true rfl) (fun F hF hQ => ?_)
  refine g_iload_n hF (by decide +kernel : decode cX4_checkWay 0 = .ok (.iload_n 0, 1)) rfl ?_
  refine g_if_ne hF (tgt := 15) (by decide +kernel : decode cX4_checkWay 1 = .ok (.ifCond .ne 14, 3)) (by decide) (by omega) (fun c1 => ?_) (fun c1 => ?_)
  · skip
    exact absurd h c1
  · skip
    exact g_throwW hF hQ th_iae (text := "no such way") (by decide) (by decide +kernel : decode cX4_checkWay 4 = .ok (.new 258, 3)) (by decide +kernel : decode cX4_checkWay 7 = .ok (.dup, 1)) (by decide +kernel : decode cX4_checkWay 8 = .ok (.ldc_w 263, 3)) (by decide +kernel : decode cX4_checkWay 11 = .ok (.invokespecial 262, 3)) (by decide +kernel : decode cX4_checkWay 14 = .ok (.athrow, 1)) (by decide) (by decide)
set_option maxHeartbeats 4000000 in
set_option maxRecDepth 100000 in
theorem c_X4_checkIsKey (X : jX) (hX : jxok X) (t : Nat) (ht : t < 19) (k : Int) (hk : jr k) (m : jM) (hm : rowok (m t)) (h : ¬ tat (m t) k = -2) : Con X yX4_checkIsKey cX4_checkIsKey 2 none 4 [vR 1 t, vI k] m (fun o m' => o = none ∧ m' = m) := by
  refine Con.of hX (by decide) (Nat.le_of_ble_eq_true rfl) (fun F hF hQ => ?_)
  refine g_aload_n hF (by decide +kernel : decode cX4_checkIsKey 0 = .ok (.aload_n 0, 1)) rfl ?_
  refine g_iload_n hF (by decide +kernel : decode cX4_checkIsKey 1 = .ok (.iload_n 1, 1)) rfl ?_
  refine g_callV hF lkX4_92 (c_X2_isKey X hX _ ht _ (by omega) _ (by assumption)) (by decide +kernel : decode cX4_checkIsKey 2 = .ok (.invokevirtual 92, 3)) (by decide) rfl rfl rfl rfl ht (Nat.le_of_ble_eq_true rfl) (fun v2 m2 h2 => ?_)
  obtain ⟨rfl, e2⟩ := h2
  obtain rfl := e2.symm
  refine g_if_ne hF (tgt := 19) (by decide +kernel : decode cX4_checkIsKey 5 = .ok (.ifCond .ne 14, 3)) (by decide) (by split <;> omega) (fun c5 => ?_) (fun c5 => ?_)
  · skip
    refine g_return hF hQ (by decide +kernel : decode cX4_checkIsKey 19 = .ok (.return_, 1)) ?_
    exact ⟨rfl, rfl⟩
  · skip
    exact absurd c5 (by rw [if_neg h]; decide)
set_option maxHeartbeats 4000000 in
set_option maxRecDepth 100000 in
theorem x_X4_checkIsKey (X : jX) (hX : jxok X) (t : Nat) (ht : t < 19) (k : Int) (hk : jr k) (m : jM) (hm : rowok (m t)) (h : tat (m t) k = -2) : ConX X yX4_checkIsKey cX4_checkIsKey 2 none 9 [vR 1 t, vI k] m "java/util/NoSuchElementException" := by
  refine ConX.of hX (by decide) (Nat.le_of_ble_eq_true rfl) (fun F hF hQ => ?_)
  refine g_aload_n hF (by decide +kernel : decode cX4_checkIsKey 0 = .ok (.aload_n 0, 1)) rfl ?_
  refine g_iload_n hF (by decide +kernel : decode cX4_checkIsKey 1 = .ok (.iload_n 1, 1)) rfl ?_
  refine g_callV hF lkX4_92 (c_X2_isKey X hX _ ht _ (by omega) _ (by assumption)) (by decide +kernel : decode cX4_checkIsKey 2 = .ok (.invokevirtual 92, 3)) (by decide) rfl rfl rfl rfl ht (Nat.le_of_ble_eq_true rfl) (fun v2 m2 h2 => ?_)
  obtain ⟨rfl, e2⟩ := h2
  obtain rfl := e2.symm
  refine g_if_ne hF (tgt := 19) (by decide +kernel : decode cX4_checkIsKey 5 = .ok (.ifCond .ne 14, 3)) (by decide) (by split <;> omega) (fun c5 => ?_) (fun c5 => ?_)
  · skip
    exact absurd (if_pos h) c5
  · skip
    exact g_throwNW hF rfl hQ (text := "it is no key of the map") (by decide) (by decide +kernel : decode cX4_checkIsKey 8 = .ok (.new 103, 3)) (by decide +kernel : decode cX4_checkIsKey 11 = .ok (.dup, 1)) (by decide +kernel : decode cX4_checkIsKey 12 = .ok (.ldc_w 265, 3)) (by decide +kernel : decode cX4_checkIsKey 15 = .ok (.invokespecial 107, 3)) (by decide +kernel : decode cX4_checkIsKey 18 = .ok (.athrow, 1)) (by decide) (Nat.le_of_ble_eq_true rfl)
set_option maxHeartbeats 4000000 in
set_option maxRecDepth 100000 in
theorem c_X4_checkWordFits (X : jX) (hX : jxok X) (w : Nat) (m : jM) (hw : rwok m w) (h : w < 60) : Con X yX4_checkWordFits cX4_checkWordFits 1 none 1 [vR 2 38] m (fun o m' => o = none ∧ m' = m) := by
  refine Con.of hX (by decide) (Nat.le_of_ble_eq_true rfl) (fun F hF hQ => ?_)
  have h1 := hw.1
  refine g_aload_n hF (by decide +kernel : decode cX4_checkWordFits 0 = .ok (.aload_n 0, 1)) rfl ?_
  refine g_getC hF lkX4_18 (by decide +kernel : decode cX4_checkWordFits 1 = .ok (.getfield 18, 3)) jok38 rfl rfl ?_
  refine g_getC hF lkX4_203 (by decide +kernel : decode cX4_checkWordFits 4 = .ok (.getfield 203, 3)) jok40 rfl rfl ?_
  refine g_bipush hF (by decide +kernel : decode cX4_checkWordFits 7 = .ok (.bipush 60, 2)) (by decide) ?_
  refine g_icmp_lt hF (tgt := 23) (by decide +kernel : decode cX4_checkWordFits 9 = .ok (.if_icmp .lt 14, 3)) (by decide) (by omega) (by omega) (fun c9 => ?_) (fun c9 => ?_)
  · skip
    refine g_return hF hQ (by decide +kernel : decode cX4_checkWordFits 23 = .ok (.return_, 1)) ?_
    exact ⟨rfl, rfl⟩
  · skip
    exact absurd c9 (by omega)
set_option maxHeartbeats 4000000 in
set_option maxRecDepth 100000 in
theorem x_X4_checkWordFits (X : jX) (hX : jxok X) (w : Nat) (m : jM) (hw : rwok m w) (h : w = 60) : ConX X yX4_checkWordFits cX4_checkWordFits 1 none 9 [vR 2 38] m "java/lang/IllegalStateException" := by
  refine ConX.of hX (by decide) (Nat.le_of_ble_eq_true rfl) (fun F hF hQ => ?_)
  have h1 := hw.1
  refine g_aload_n hF (by decide +kernel : decode cX4_checkWordFits 0 = .ok (.aload_n 0, 1)) rfl ?_
  refine g_getC hF lkX4_18 (by decide +kernel : decode cX4_checkWordFits 1 = .ok (.getfield 18, 3)) jok38 rfl rfl ?_
  refine g_getC hF lkX4_203 (by decide +kernel : decode cX4_checkWordFits 4 = .ok (.getfield 203, 3)) jok40 rfl rfl ?_
  refine g_bipush hF (by decide +kernel : decode cX4_checkWordFits 7 = .ok (.bipush 60, 2)) (by decide) ?_
  refine g_icmp_lt hF (tgt := 23) (by decide +kernel : decode cX4_checkWordFits 9 = .ok (.if_icmp .lt 14, 3)) (by decide) (by omega) (by omega) (fun c9 => ?_) (fun c9 => ?_)
  · skip
    exact absurd c9 (by omega)
  · skip
    exact g_throwW hF hQ th_ise (text := "the row is full") (by decide) (by decide +kernel : decode cX4_checkWordFits 12 = .ok (.new 272, 3)) (by decide +kernel : decode cX4_checkWordFits 15 = .ok (.dup, 1)) (by decide +kernel : decode cX4_checkWordFits 16 = .ok (.ldc_w 274, 3)) (by decide +kernel : decode cX4_checkWordFits 19 = .ok (.invokespecial 276, 3)) (by decide +kernel : decode cX4_checkWordFits 22 = .ok (.athrow, 1)) (by decide) (by decide)
set_option maxHeartbeats 4000000 in
set_option maxRecDepth 100000 in
theorem c_X4_openToWrite (X : jX) (hX : jxok X) (s : Nat) (hs : s < 8) (nx : Nat) (hn : nx < 8) (m : jM) (hC : CI m) (h0 : m 45 0 = nx) : Con X yX4_openToWrite cX4_openToWrite 2 (some (.object "Keywright$Table")) 4 [vR 2 38, vI s] m (fun o m' => o = some (vR 1 s) ∧ m' = keepM m s s nx) := by
  refine Con.of hX (by decide) (Nat.le_of_ble_eq_true rfl) (fun F hF hQ => ?_)
  refine g_aload_n hF (by decide +kernel : decode cX4_openToWrite 0 = .ok (.aload_n 0, 1)) rfl ?_
  refine g_getC hF lkX4_25 (by decide +kernel : decode cX4_openToWrite 1 = .ok (.getfield 25, 3)) jok38 rfl rfl ?_
  refine g_iload_n hF (by decide +kernel : decode cX4_openToWrite 4 = .ok (.iload_n 1, 1)) rfl ?_
  refine g_aload_n hF (by decide +kernel : decode cX4_openToWrite 5 = .ok (.aload_n 0, 1)) rfl ?_
  refine g_getC hF lkX4_11 (by decide +kernel : decode cX4_openToWrite 6 = .ok (.getfield 11, 3)) jok38 rfl rfl ?_
  refine g_iload_n hF (by decide +kernel : decode cX4_openToWrite 9 = .ok (.iload_n 1, 1)) rfl ?_
  refine g_aaload_39 hF (by decide +kernel : decode cX4_openToWrite 10 = .ok (.aaload, 1)) (rfl) hs ?_
  refine g_callV hF lkX4_277 (c_X0_keep X hX _ _ (show s < 19 by omega) _ hn _ h0 hC.2.2.2.1 (hC.1 s (by omega)).2) (by decide +kernel : decode cX4_openToWrite 11 = .ok (.invokevirtual 277, 3)) (by decide) rfl rfl rfl rfl jok45 (Nat.le_of_ble_eq_true rfl) (fun v11 m11 h11 => ?_)
  obtain ⟨rfl, e11⟩ := h11
  obtain rfl := e11.symm
  refine g_aload_n hF (by decide +kernel : decode cX4_openToWrite 14 = .ok (.aload_n 0, 1)) rfl ?_
  refine g_getC hF lkX4_11 (by decide +kernel : decode cX4_openToWrite 15 = .ok (.getfield 11, 3)) jok38 rfl rfl ?_
  refine g_iload_n hF (by decide +kernel : decode cX4_openToWrite 18 = .ok (.iload_n 1, 1)) rfl ?_
  refine g_aaload_39 hF (by decide +kernel : decode cX4_openToWrite 19 = .ok (.aaload, 1)) (rfl) hs ?_
  refine g_areturn hF hQ (by decide +kernel : decode cX4_openToWrite 20 = .ok (.areturn, 1)) ?_
  exact ⟨rfl, rfl⟩
set_option maxHeartbeats 4000000 in
set_option maxRecDepth 100000 in
theorem c_X4_settle (X : jX) (hX : jxok X) (s : Nat) (hs : s < 8) (nx : Nat) (hn : nx < 8) (m : jM) (hC : CI m) (h0 : m 45 0 = nx) : Con X yX4_settle cX4_settle 3 (some .int) 5 [vR 2 38, vI s] m (fun o m' => o = some (vI (cnt (m 16))) ∧ m' = tset (keepM m s s nx) s (m 16)) := by
  refine Con.of hX (by decide) (Nat.le_of_ble_eq_true rfl) (fun F hF hQ => ?_)
  refine g_aload_n hF (by decide +kernel : decode cX4_settle 0 = .ok (.aload_n 0, 1)) rfl ?_
  refine g_iload_n hF (by decide +kernel : decode cX4_settle 1 = .ok (.iload_n 1, 1)) rfl ?_
  refine g_callV hF lkX4_58 (c_X4_openToWrite X hX _ (by assumption) _ (by assumption) _ (by assumption) (by assumption)) (by decide +kernel : decode cX4_settle 2 = .ok (.invokevirtual 58, 3)) (by decide) rfl rfl rfl rfl jok38 (Nat.le_of_ble_eq_true rfl) (fun v2 m2 h2 => ?_)
  obtain ⟨rfl, e2⟩ := h2
  have f16 : m2 16 = m 16 := by rw [e2]; exact keepM_row (by omega) (by omega) (by omega) (by omega)
  have f35 : m2 (19 + 16) 0 = cnt (m2 16) := by rw [f16, e2, keepM_row (by omega) (by omega) (by omega) (by omega)]; exact (hC.1 16 (by omega)).2
  refine g_astore_n hF (by decide +kernel : decode cX4_settle 5 = .ok (.astore_n 2, 1)) (by decide) ?_
  refine g_aload_n hF (by decide +kernel : decode cX4_settle 6 = .ok (.aload_n 2, 1)) rfl ?_
  refine g_aload_n hF (by decide +kernel : decode cX4_settle 7 = .ok (.aload_n 0, 1)) rfl ?_
  refine g_getC hF lkX4_37 (by decide +kernel : decode cX4_settle 8 = .ok (.getfield 37, 3)) jok38 rfl rfl ?_
  refine g_callV hF lkX4_140 (c_X2_become X hX _ (show s < 19 by omega) _ ht16 _ (by assumption)) (by decide +kernel : decode cX4_settle 11 = .ok (.invokevirtual 140, 3)) (by decide) rfl rfl rfl rfl (show s < 19 by omega) (Nat.le_of_ble_eq_true rfl) (fun v11 m11 h11 => ?_)
  obtain ⟨rfl, e11⟩ := h11
  refine g_aload_n hF (by decide +kernel : decode cX4_settle 14 = .ok (.aload_n 2, 1)) rfl ?_
  refine g_tcnt hF lkX4_85 (by decide +kernel : decode cX4_settle 15 = .ok (.getfield 85, 3)) (show s < 19 by omega) ?_
  refine g_ireturn hF hQ (by decide +kernel : decode cX4_settle 18 = .ok (.ireturn, 1)) ?_
  exact ⟨by rw [e11, tset_ct, f16], by rw [e11, e2, keepM_row (by omega) (by omega) (by omega) (by omega)]⟩

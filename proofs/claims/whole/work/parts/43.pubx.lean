set_option maxHeartbeats 4000000 in
set_option maxRecDepth 100000 in
theorem xa_X4_put (X : jX) (hX : jxok X) (s : Int) (js : jr s) (k : Int) (jk : jr k) (v : Int) (jv : jr v) (m : jM) (h : ¬ ((0 ≤ s ∧ s < 8))) : ConX X yX4_put cX4_put 6 (some .int) 12 [vR 2 38, vI s, vI k, vI v] m "java/lang/IndexOutOfBoundsException" := by
  refine ConX.of hX (by decide) (Nat.le_of_ble_eq_true rfl) (fun F hF hQ => ?_)
  refine g_iload_n hF (by decide +kernel : decode cX4_put 0 = .ok (.iload_n 1, 1)) rfl ?_
  exact g_callXS hF hQ lkX4_51 (x_X4_checkSlot X hX _ (by omega) h _) (by decide +kernel : decode cX4_put 1 = .ok (.invokestatic 51, 3)) (by decide) rfl rfl (Nat.le_of_ble_eq_true rfl) 
set_option maxHeartbeats 4000000 in
set_option maxRecDepth 100000 in
theorem xb_X4_put (X : jX) (hX : jxok X) (s : Nat) (hs : s < 8) (k : Int) (jk : jr k) (v : Int) (jv : jr v) (m : jM) (hC : CI m) (h : ¬ (num k ∧ num v)) : ConX X yX4_put cX4_put 6 (some .int) 12 [vR 2 38, vI s, vI k, vI v] m "java/lang/IllegalArgumentException" := by
  refine ConX.of hX (by decide) (Nat.le_of_ble_eq_true rfl) (fun F hF hQ => ?_)
  refine g_iload_n hF (by decide +kernel : decode cX4_put 0 = .ok (.iload_n 1, 1)) rfl ?_
  refine g_callS hF lkX4_51 (c_X4_checkSlot X hX _ (by omega) (by omega) _) (by decide +kernel : decode cX4_put 1 = .ok (.invokestatic 51, 3)) (by decide) rfl rfl (Nat.le_of_ble_eq_true rfl) (fun v1 m1 h1 => ?_)
  obtain ⟨rfl, e1⟩ := h1
  obtain rfl := e1.symm
  refine g_iload_n hF (by decide +kernel : decode cX4_put 4 = .ok (.iload_n 2, 1)) rfl ?_
  rcases Classical.em (-1 ≤ k ∧ k ≤ 255) with s5 | s5
  · skip
    refine g_callS hF lkX4_55 (c_X4_checkNumber X hX _ (by omega) (by unfold num; omega) _) (by decide +kernel : decode cX4_put 5 = .ok (.invokestatic 55, 3)) (by decide) rfl rfl (Nat.le_of_ble_eq_true rfl) (fun v5 m5 h5 => ?_)
    obtain ⟨rfl, e5⟩ := h5
    obtain rfl := e5.symm
    refine g_iload_n hF (by decide +kernel : decode cX4_put 8 = .ok (.iload_n 3, 1)) rfl ?_
    exact g_callXS hF hQ lkX4_55 (x_X4_checkNumber X hX _ (by omega) (fun q => h ⟨s5, q⟩) _) (by decide +kernel : decode cX4_put 9 = .ok (.invokestatic 55, 3)) (by decide) rfl rfl (Nat.le_of_ble_eq_true rfl) 
  · exact g_callXS hF hQ lkX4_55 (x_X4_checkNumber X hX _ (by omega) s5 _) (by decide +kernel : decode cX4_put 5 = .ok (.invokestatic 55, 3)) (by decide) rfl rfl (Nat.le_of_ble_eq_true rfl)
set_option maxHeartbeats 4000000 in
set_option maxRecDepth 100000 in
theorem xa_X4_putFirst (X : jX) (hX : jxok X) (s : Int) (js : jr s) (k : Int) (jk : jr k) (v : Int) (jv : jr v) (m : jM) (h : ¬ ((0 ≤ s ∧ s < 8))) : ConX X yX4_putFirst cX4_putFirst 6 (some .int) 12 [vR 2 38, vI s, vI k, vI v] m "java/lang/IndexOutOfBoundsException" := by
  refine ConX.of hX (by decide) (Nat.le_of_ble_eq_true rfl) (fun F hF hQ => ?_)
  refine g_iload_n hF (by decide +kernel : decode cX4_putFirst 0 = .ok (.iload_n 1, 1)) rfl ?_
  exact g_callXS hF hQ lkX4_51 (x_X4_checkSlot X hX _ (by omega) h _) (by decide +kernel : decode cX4_putFirst 1 = .ok (.invokestatic 51, 3)) (by decide) rfl rfl (Nat.le_of_ble_eq_true rfl) 
set_option maxHeartbeats 4000000 in
set_option maxRecDepth 100000 in
theorem xb_X4_putFirst (X : jX) (hX : jxok X) (s : Nat) (hs : s < 8) (k : Int) (jk : jr k) (v : Int) (jv : jr v) (m : jM) (hC : CI m) (h : ¬ (num k ∧ num v)) : ConX X yX4_putFirst cX4_putFirst 6 (some .int) 12 [vR 2 38, vI s, vI k, vI v] m "java/lang/IllegalArgumentException" := by
  refine ConX.of hX (by decide) (Nat.le_of_ble_eq_true rfl) (fun F hF hQ => ?_)
  refine g_iload_n hF (by decide +kernel : decode cX4_putFirst 0 = .ok (.iload_n 1, 1)) rfl ?_
  refine g_callS hF lkX4_51 (c_X4_checkSlot X hX _ (by omega) (by omega) _) (by decide +kernel : decode cX4_putFirst 1 = .ok (.invokestatic 51, 3)) (by decide) rfl rfl (Nat.le_of_ble_eq_true rfl) (fun v1 m1 h1 => ?_)
  obtain ⟨rfl, e1⟩ := h1
  obtain rfl := e1.symm
  refine g_iload_n hF (by decide +kernel : decode cX4_putFirst 4 = .ok (.iload_n 2, 1)) rfl ?_
  rcases Classical.em (-1 ≤ k ∧ k ≤ 255) with s5 | s5
  · skip
    refine g_callS hF lkX4_55 (c_X4_checkNumber X hX _ (by omega) (by unfold num; omega) _) (by decide +kernel : decode cX4_putFirst 5 = .ok (.invokestatic 55, 3)) (by decide) rfl rfl (Nat.le_of_ble_eq_true rfl) (fun v5 m5 h5 => ?_)
    obtain ⟨rfl, e5⟩ := h5
    obtain rfl := e5.symm
    refine g_iload_n hF (by decide +kernel : decode cX4_putFirst 8 = .ok (.iload_n 3, 1)) rfl ?_
    exact g_callXS hF hQ lkX4_55 (x_X4_checkNumber X hX _ (by omega) (fun q => h ⟨s5, q⟩) _) (by decide +kernel : decode cX4_putFirst 9 = .ok (.invokestatic 55, 3)) (by decide) rfl rfl (Nat.le_of_ble_eq_true rfl) 
  · exact g_callXS hF hQ lkX4_55 (x_X4_checkNumber X hX _ (by omega) s5 _) (by decide +kernel : decode cX4_putFirst 5 = .ok (.invokestatic 55, 3)) (by decide) rfl rfl (Nat.le_of_ble_eq_true rfl)
set_option maxHeartbeats 4000000 in
set_option maxRecDepth 100000 in
theorem xa_X4_change (X : jX) (hX : jxok X) (s : Int) (js : jr s) (k : Int) (jk : jr k) (v : Int) (jv : jr v) (m : jM) (h : ¬ ((0 ≤ s ∧ s < 8))) : ConX X yX4_change cX4_change 6 (some .int) 12 [vR 2 38, vI s, vI k, vI v] m "java/lang/IndexOutOfBoundsException" := by
  refine ConX.of hX (by decide) (Nat.le_of_ble_eq_true rfl) (fun F hF hQ => ?_)
  refine g_iload_n hF (by decide +kernel : decode cX4_change 0 = .ok (.iload_n 1, 1)) rfl ?_
  exact g_callXS hF hQ lkX4_51 (x_X4_checkSlot X hX _ (by omega) h _) (by decide +kernel : decode cX4_change 1 = .ok (.invokestatic 51, 3)) (by decide) rfl rfl (Nat.le_of_ble_eq_true rfl) 
set_option maxHeartbeats 4000000 in
set_option maxRecDepth 100000 in
theorem xb_X4_change (X : jX) (hX : jxok X) (s : Nat) (hs : s < 8) (k : Int) (jk : jr k) (v : Int) (jv : jr v) (m : jM) (hC : CI m) (h : ¬ (num k ∧ num v)) : ConX X yX4_change cX4_change 6 (some .int) 12 [vR 2 38, vI s, vI k, vI v] m "java/lang/IllegalArgumentException" := by
  refine ConX.of hX (by decide) (Nat.le_of_ble_eq_true rfl) (fun F hF hQ => ?_)
  refine g_iload_n hF (by decide +kernel : decode cX4_change 0 = .ok (.iload_n 1, 1)) rfl ?_
  refine g_callS hF lkX4_51 (c_X4_checkSlot X hX _ (by omega) (by omega) _) (by decide +kernel : decode cX4_change 1 = .ok (.invokestatic 51, 3)) (by decide) rfl rfl (Nat.le_of_ble_eq_true rfl) (fun v1 m1 h1 => ?_)
  obtain ⟨rfl, e1⟩ := h1
  obtain rfl := e1.symm
  refine g_iload_n hF (by decide +kernel : decode cX4_change 4 = .ok (.iload_n 2, 1)) rfl ?_
  rcases Classical.em (-1 ≤ k ∧ k ≤ 255) with s5 | s5
  · skip
    refine g_callS hF lkX4_55 (c_X4_checkNumber X hX _ (by omega) (by unfold num; omega) _) (by decide +kernel : decode cX4_change 5 = .ok (.invokestatic 55, 3)) (by decide) rfl rfl (Nat.le_of_ble_eq_true rfl) (fun v5 m5 h5 => ?_)
    obtain ⟨rfl, e5⟩ := h5
    obtain rfl := e5.symm
    refine g_iload_n hF (by decide +kernel : decode cX4_change 8 = .ok (.iload_n 3, 1)) rfl ?_
    exact g_callXS hF hQ lkX4_55 (x_X4_checkNumber X hX _ (by omega) (fun q => h ⟨s5, q⟩) _) (by decide +kernel : decode cX4_change 9 = .ok (.invokestatic 55, 3)) (by decide) rfl rfl (Nat.le_of_ble_eq_true rfl) 
  · exact g_callXS hF hQ lkX4_55 (x_X4_checkNumber X hX _ (by omega) s5 _) (by decide +kernel : decode cX4_change 5 = .ok (.invokestatic 55, 3)) (by decide) rfl rfl (Nat.le_of_ble_eq_true rfl)
set_option maxHeartbeats 4000000 in
set_option maxRecDepth 100000 in
theorem xa_X4_changeIf (X : jX) (hX : jxok X) (s : Int) (js : jr s) (k : Int) (jk : jr k) (w : Int) (jw : jr w) (v : Int) (jv : jr v) (m : jM) (h : ¬ ((0 ≤ s ∧ s < 8))) : ConX X yX4_changeIf cX4_changeIf 7 (some .boolean) 12 [vR 2 38, vI s, vI k, vI w, vI v] m "java/lang/IndexOutOfBoundsException" := by
  refine ConX.of hX (by decide) (Nat.le_of_ble_eq_true rfl) (fun F hF hQ => ?_)
  refine g_iload_n hF (by decide +kernel : decode cX4_changeIf 0 = .ok (.iload_n 1, 1)) rfl ?_
  exact g_callXS hF hQ lkX4_51 (x_X4_checkSlot X hX _ (by omega) h _) (by decide +kernel : decode cX4_changeIf 1 = .ok (.invokestatic 51, 3)) (by decide) rfl rfl (Nat.le_of_ble_eq_true rfl) 
set_option maxHeartbeats 4000000 in
set_option maxRecDepth 100000 in
theorem xb_X4_changeIf (X : jX) (hX : jxok X) (s : Nat) (hs : s < 8) (k : Int) (jk : jr k) (w : Int) (jw : jr w) (v : Int) (jv : jr v) (m : jM) (hC : CI m) (h : ¬ (num k ∧ num w ∧ num v)) : ConX X yX4_changeIf cX4_changeIf 7 (some .boolean) 12 [vR 2 38, vI s, vI k, vI w, vI v] m "java/lang/IllegalArgumentException" := by
  refine ConX.of hX (by decide) (Nat.le_of_ble_eq_true rfl) (fun F hF hQ => ?_)
  refine g_iload_n hF (by decide +kernel : decode cX4_changeIf 0 = .ok (.iload_n 1, 1)) rfl ?_
  refine g_callS hF lkX4_51 (c_X4_checkSlot X hX _ (by omega) (by omega) _) (by decide +kernel : decode cX4_changeIf 1 = .ok (.invokestatic 51, 3)) (by decide) rfl rfl (Nat.le_of_ble_eq_true rfl) (fun v1 m1 h1 => ?_)
  obtain ⟨rfl, e1⟩ := h1
  obtain rfl := e1.symm
  refine g_iload_n hF (by decide +kernel : decode cX4_changeIf 4 = .ok (.iload_n 2, 1)) rfl ?_
  rcases Classical.em (-1 ≤ k ∧ k ≤ 255) with s5 | s5
  · skip
    refine g_callS hF lkX4_55 (c_X4_checkNumber X hX _ (by omega) (by unfold num; omega) _) (by decide +kernel : decode cX4_changeIf 5 = .ok (.invokestatic 55, 3)) (by decide) rfl rfl (Nat.le_of_ble_eq_true rfl) (fun v5 m5 h5 => ?_)
    obtain ⟨rfl, e5⟩ := h5
    obtain rfl := e5.symm
    refine g_iload_n hF (by decide +kernel : decode cX4_changeIf 8 = .ok (.iload_n 3, 1)) rfl ?_
    rcases Classical.em (-1 ≤ w ∧ w ≤ 255) with s9 | s9
    · skip
      refine g_callS hF lkX4_55 (c_X4_checkNumber X hX _ (by omega) (by unfold num; omega) _) (by decide +kernel : decode cX4_changeIf 9 = .ok (.invokestatic 55, 3)) (by decide) rfl rfl (Nat.le_of_ble_eq_true rfl) (fun v9 m9 h9 => ?_)
      obtain ⟨rfl, e9⟩ := h9
      obtain rfl := e9.symm
      refine g_iload hF (by decide +kernel : decode cX4_changeIf 12 = .ok (.iload 4, 2)) rfl ?_
      exact g_callXS hF hQ lkX4_55 (x_X4_checkNumber X hX _ (by omega) (fun q => h ⟨s5, s9, q⟩) _) (by decide +kernel : decode cX4_changeIf 14 = .ok (.invokestatic 55, 3)) (by decide) rfl rfl (Nat.le_of_ble_eq_true rfl) 
    · exact g_callXS hF hQ lkX4_55 (x_X4_checkNumber X hX _ (by omega) s9 _) (by decide +kernel : decode cX4_changeIf 9 = .ok (.invokestatic 55, 3)) (by decide) rfl rfl (Nat.le_of_ble_eq_true rfl)
  · exact g_callXS hF hQ lkX4_55 (x_X4_checkNumber X hX _ (by omega) s5 _) (by decide +kernel : decode cX4_changeIf 5 = .ok (.invokestatic 55, 3)) (by decide) rfl rfl (Nat.le_of_ble_eq_true rfl)
set_option maxHeartbeats 4000000 in
set_option maxRecDepth 100000 in
theorem xa_X4_take (X : jX) (hX : jxok X) (s : Int) (js : jr s) (k : Int) (jk : jr k) (m : jM) (h : ¬ ((0 ≤ s ∧ s < 8))) : ConX X yX4_take cX4_take 5 (some .int) 12 [vR 2 38, vI s, vI k] m "java/lang/IndexOutOfBoundsException" := by
  refine ConX.of hX (by decide) (Nat.le_of_ble_eq_true rfl) (fun F hF hQ => ?_)
  refine g_iload_n hF (by decide +kernel : decode cX4_take 0 = .ok (.iload_n 1, 1)) rfl ?_
  exact g_callXS hF hQ lkX4_51 (x_X4_checkSlot X hX _ (by omega) h _) (by decide +kernel : decode cX4_take 1 = .ok (.invokestatic 51, 3)) (by decide) rfl rfl (Nat.le_of_ble_eq_true rfl) 
set_option maxHeartbeats 4000000 in
set_option maxRecDepth 100000 in
theorem xb_X4_take (X : jX) (hX : jxok X) (s : Nat) (hs : s < 8) (k : Int) (jk : jr k) (m : jM) (hC : CI m) (h : ¬ (num k)) : ConX X yX4_take cX4_take 5 (some .int) 12 [vR 2 38, vI s, vI k] m "java/lang/IllegalArgumentException" := by
  refine ConX.of hX (by decide) (Nat.le_of_ble_eq_true rfl) (fun F hF hQ => ?_)
  refine g_iload_n hF (by decide +kernel : decode cX4_take 0 = .ok (.iload_n 1, 1)) rfl ?_
  refine g_callS hF lkX4_51 (c_X4_checkSlot X hX _ (by omega) (by omega) _) (by decide +kernel : decode cX4_take 1 = .ok (.invokestatic 51, 3)) (by decide) rfl rfl (Nat.le_of_ble_eq_true rfl) (fun v1 m1 h1 => ?_)
  obtain ⟨rfl, e1⟩ := h1
  obtain rfl := e1.symm
  refine g_iload_n hF (by decide +kernel : decode cX4_take 4 = .ok (.iload_n 2, 1)) rfl ?_
  exact g_callXS hF hQ lkX4_55 (x_X4_checkNumber X hX _ (by omega) h _) (by decide +kernel : decode cX4_take 5 = .ok (.invokestatic 55, 3)) (by decide) rfl rfl (Nat.le_of_ble_eq_true rfl) 
set_option maxHeartbeats 4000000 in
set_option maxRecDepth 100000 in
theorem xa_X4_takeIf (X : jX) (hX : jxok X) (s : Int) (js : jr s) (k : Int) (jk : jr k) (v : Int) (jv : jr v) (m : jM) (h : ¬ ((0 ≤ s ∧ s < 8))) : ConX X yX4_takeIf cX4_takeIf 6 (some .boolean) 12 [vR 2 38, vI s, vI k, vI v] m "java/lang/IndexOutOfBoundsException" := by
  refine ConX.of hX (by decide) (Nat.le_of_ble_eq_true rfl) (fun F hF hQ => ?_)
  refine g_iload_n hF (by decide +kernel : decode cX4_takeIf 0 = .ok (.iload_n 1, 1)) rfl ?_
  exact g_callXS hF hQ lkX4_51 (x_X4_checkSlot X hX _ (by omega) h _) (by decide +kernel : decode cX4_takeIf 1 = .ok (.invokestatic 51, 3)) (by decide) rfl rfl (Nat.le_of_ble_eq_true rfl) 
set_option maxHeartbeats 4000000 in
set_option maxRecDepth 100000 in
theorem xb_X4_takeIf (X : jX) (hX : jxok X) (s : Nat) (hs : s < 8) (k : Int) (jk : jr k) (v : Int) (jv : jr v) (m : jM) (hC : CI m) (h : ¬ (num k ∧ num v)) : ConX X yX4_takeIf cX4_takeIf 6 (some .boolean) 12 [vR 2 38, vI s, vI k, vI v] m "java/lang/IllegalArgumentException" := by
  refine ConX.of hX (by decide) (Nat.le_of_ble_eq_true rfl) (fun F hF hQ => ?_)
  refine g_iload_n hF (by decide +kernel : decode cX4_takeIf 0 = .ok (.iload_n 1, 1)) rfl ?_
  refine g_callS hF lkX4_51 (c_X4_checkSlot X hX _ (by omega) (by omega) _) (by decide +kernel : decode cX4_takeIf 1 = .ok (.invokestatic 51, 3)) (by decide) rfl rfl (Nat.le_of_ble_eq_true rfl) (fun v1 m1 h1 => ?_)
  obtain ⟨rfl, e1⟩ := h1
  obtain rfl := e1.symm
  refine g_iload_n hF (by decide +kernel : decode cX4_takeIf 4 = .ok (.iload_n 2, 1)) rfl ?_
  rcases Classical.em (-1 ≤ k ∧ k ≤ 255) with s5 | s5
  · skip
    refine g_callS hF lkX4_55 (c_X4_checkNumber X hX _ (by omega) (by unfold num; omega) _) (by decide +kernel : decode cX4_takeIf 5 = .ok (.invokestatic 55, 3)) (by decide) rfl rfl (Nat.le_of_ble_eq_true rfl) (fun v5 m5 h5 => ?_)
    obtain ⟨rfl, e5⟩ := h5
    obtain rfl := e5.symm
    refine g_iload_n hF (by decide +kernel : decode cX4_takeIf 8 = .ok (.iload_n 3, 1)) rfl ?_
    exact g_callXS hF hQ lkX4_55 (x_X4_checkNumber X hX _ (by omega) (fun q => h ⟨s5, q⟩) _) (by decide +kernel : decode cX4_takeIf 9 = .ok (.invokestatic 55, 3)) (by decide) rfl rfl (Nat.le_of_ble_eq_true rfl) 
  · exact g_callXS hF hQ lkX4_55 (x_X4_checkNumber X hX _ (by omega) s5 _) (by decide +kernel : decode cX4_takeIf 5 = .ok (.invokestatic 55, 3)) (by decide) rfl rfl (Nat.le_of_ble_eq_true rfl)
set_option maxHeartbeats 4000000 in
set_option maxRecDepth 100000 in
theorem xa_X4_clear (X : jX) (hX : jxok X) (s : Int) (js : jr s) (m : jM) (h : ¬ ((0 ≤ s ∧ s < 8))) : ConX X yX4_clear cX4_clear 4 (some .int) 12 [vR 2 38, vI s] m "java/lang/IndexOutOfBoundsException" := by
  refine ConX.of hX (by decide) (Nat.le_of_ble_eq_true rfl) (fun F hF hQ => ?_)
  refine g_iload_n hF (by decide +kernel : decode cX4_clear 0 = .ok (.iload_n 1, 1)) rfl ?_
  exact g_callXS hF hQ lkX4_51 (x_X4_checkSlot X hX _ (by omega) h _) (by decide +kernel : decode cX4_clear 1 = .ok (.invokestatic 51, 3)) (by decide) rfl rfl (Nat.le_of_ble_eq_true rfl) 
set_option maxHeartbeats 4000000 in
set_option maxRecDepth 100000 in
theorem xa_X4_get (X : jX) (hX : jxok X) (s : Int) (js : jr s) (k : Int) (jk : jr k) (m : jM) (h : ¬ ((0 ≤ s ∧ s < 8))) : ConX X yX4_get cX4_get 3 (some .int) 12 [vR 2 38, vI s, vI k] m "java/lang/IndexOutOfBoundsException" := by
  refine ConX.of hX (by decide) (Nat.le_of_ble_eq_true rfl) (fun F hF hQ => ?_)
  refine g_iload_n hF (by decide +kernel : decode cX4_get 0 = .ok (.iload_n 1, 1)) rfl ?_
  exact g_callXS hF hQ lkX4_51 (x_X4_checkSlot X hX _ (by omega) h _) (by decide +kernel : decode cX4_get 1 = .ok (.invokestatic 51, 3)) (by decide) rfl rfl (Nat.le_of_ble_eq_true rfl) 
set_option maxHeartbeats 4000000 in
set_option maxRecDepth 100000 in
theorem xb_X4_get (X : jX) (hX : jxok X) (s : Nat) (hs : s < 8) (k : Int) (jk : jr k) (m : jM) (hC : CI m) (h : ¬ (num k)) : ConX X yX4_get cX4_get 3 (some .int) 12 [vR 2 38, vI s, vI k] m "java/lang/IllegalArgumentException" := by
  refine ConX.of hX (by decide) (Nat.le_of_ble_eq_true rfl) (fun F hF hQ => ?_)
  refine g_iload_n hF (by decide +kernel : decode cX4_get 0 = .ok (.iload_n 1, 1)) rfl ?_
  refine g_callS hF lkX4_51 (c_X4_checkSlot X hX _ (by omega) (by omega) _) (by decide +kernel : decode cX4_get 1 = .ok (.invokestatic 51, 3)) (by decide) rfl rfl (Nat.le_of_ble_eq_true rfl) (fun v1 m1 h1 => ?_)
  obtain ⟨rfl, e1⟩ := h1
  obtain rfl := e1.symm
  refine g_iload_n hF (by decide +kernel : decode cX4_get 4 = .ok (.iload_n 2, 1)) rfl ?_
  exact g_callXS hF hQ lkX4_55 (x_X4_checkNumber X hX _ (by omega) h _) (by decide +kernel : decode cX4_get 5 = .ok (.invokestatic 55, 3)) (by decide) rfl rfl (Nat.le_of_ble_eq_true rfl) 
set_option maxHeartbeats 4000000 in
set_option maxRecDepth 100000 in
theorem xa_X4_getOr (X : jX) (hX : jxok X) (s : Int) (js : jr s) (k : Int) (jk : jr k) (v : Int) (jv : jr v) (m : jM) (h : ¬ ((0 ≤ s ∧ s < 8))) : ConX X yX4_getOr cX4_getOr 4 (some .int) 12 [vR 2 38, vI s, vI k, vI v] m "java/lang/IndexOutOfBoundsException" := by
  refine ConX.of hX (by decide) (Nat.le_of_ble_eq_true rfl) (fun F hF hQ => ?_)
  refine g_iload_n hF (by decide +kernel : decode cX4_getOr 0 = .ok (.iload_n 1, 1)) rfl ?_
  exact g_callXS hF hQ lkX4_51 (x_X4_checkSlot X hX _ (by omega) h _) (by decide +kernel : decode cX4_getOr 1 = .ok (.invokestatic 51, 3)) (by decide) rfl rfl (Nat.le_of_ble_eq_true rfl) 
set_option maxHeartbeats 4000000 in
set_option maxRecDepth 100000 in
theorem xb_X4_getOr (X : jX) (hX : jxok X) (s : Nat) (hs : s < 8) (k : Int) (jk : jr k) (v : Int) (jv : jr v) (m : jM) (hC : CI m) (h : ¬ (num k ∧ num v)) : ConX X yX4_getOr cX4_getOr 4 (some .int) 12 [vR 2 38, vI s, vI k, vI v] m "java/lang/IllegalArgumentException" := by
  refine ConX.of hX (by decide) (Nat.le_of_ble_eq_true rfl) (fun F hF hQ => ?_)
  refine g_iload_n hF (by decide +kernel : decode cX4_getOr 0 = .ok (.iload_n 1, 1)) rfl ?_
  refine g_callS hF lkX4_51 (c_X4_checkSlot X hX _ (by omega) (by omega) _) (by decide +kernel : decode cX4_getOr 1 = .ok (.invokestatic 51, 3)) (by decide) rfl rfl (Nat.le_of_ble_eq_true rfl) (fun v1 m1 h1 => ?_)
  obtain ⟨rfl, e1⟩ := h1
  obtain rfl := e1.symm
  refine g_iload_n hF (by decide +kernel : decode cX4_getOr 4 = .ok (.iload_n 2, 1)) rfl ?_
  rcases Classical.em (-1 ≤ k ∧ k ≤ 255) with s5 | s5
  · skip
    refine g_callS hF lkX4_55 (c_X4_checkNumber X hX _ (by omega) (by unfold num; omega) _) (by decide +kernel : decode cX4_getOr 5 = .ok (.invokestatic 55, 3)) (by decide) rfl rfl (Nat.le_of_ble_eq_true rfl) (fun v5 m5 h5 => ?_)
    obtain ⟨rfl, e5⟩ := h5
    obtain rfl := e5.symm
    refine g_iload_n hF (by decide +kernel : decode cX4_getOr 8 = .ok (.iload_n 3, 1)) rfl ?_
    exact g_callXS hF hQ lkX4_55 (x_X4_checkNumber X hX _ (by omega) (fun q => h ⟨s5, q⟩) _) (by decide +kernel : decode cX4_getOr 9 = .ok (.invokestatic 55, 3)) (by decide) rfl rfl (Nat.le_of_ble_eq_true rfl) 
  · exact g_callXS hF hQ lkX4_55 (x_X4_checkNumber X hX _ (by omega) s5 _) (by decide +kernel : decode cX4_getOr 5 = .ok (.invokestatic 55, 3)) (by decide) rfl rfl (Nat.le_of_ble_eq_true rfl)
set_option maxHeartbeats 4000000 in
set_option maxRecDepth 100000 in
theorem xa_X4_has (X : jX) (hX : jxok X) (s : Int) (js : jr s) (k : Int) (jk : jr k) (m : jM) (h : ¬ ((0 ≤ s ∧ s < 8))) : ConX X yX4_has cX4_has 3 (some .boolean) 12 [vR 2 38, vI s, vI k] m "java/lang/IndexOutOfBoundsException" := by
  refine ConX.of hX (by decide) (Nat.le_of_ble_eq_true rfl) (fun F hF hQ => ?_)
  refine g_iload_n hF (by decide +kernel : decode cX4_has 0 = .ok (.iload_n 1, 1)) rfl ?_
  exact g_callXS hF hQ lkX4_51 (x_X4_checkSlot X hX _ (by omega) h _) (by decide +kernel : decode cX4_has 1 = .ok (.invokestatic 51, 3)) (by decide) rfl rfl (Nat.le_of_ble_eq_true rfl) 
set_option maxHeartbeats 4000000 in
set_option maxRecDepth 100000 in
theorem xb_X4_has (X : jX) (hX : jxok X) (s : Nat) (hs : s < 8) (k : Int) (jk : jr k) (m : jM) (hC : CI m) (h : ¬ (num k)) : ConX X yX4_has cX4_has 3 (some .boolean) 12 [vR 2 38, vI s, vI k] m "java/lang/IllegalArgumentException" := by
  refine ConX.of hX (by decide) (Nat.le_of_ble_eq_true rfl) (fun F hF hQ => ?_)
  refine g_iload_n hF (by decide +kernel : decode cX4_has 0 = .ok (.iload_n 1, 1)) rfl ?_
  refine g_callS hF lkX4_51 (c_X4_checkSlot X hX _ (by omega) (by omega) _) (by decide +kernel : decode cX4_has 1 = .ok (.invokestatic 51, 3)) (by decide) rfl rfl (Nat.le_of_ble_eq_true rfl) (fun v1 m1 h1 => ?_)
  obtain ⟨rfl, e1⟩ := h1
  obtain rfl := e1.symm
  refine g_iload_n hF (by decide +kernel : decode cX4_has 4 = .ok (.iload_n 2, 1)) rfl ?_
  exact g_callXS hF hQ lkX4_55 (x_X4_checkNumber X hX _ (by omega) h _) (by decide +kernel : decode cX4_has 5 = .ok (.invokestatic 55, 3)) (by decide) rfl rfl (Nat.le_of_ble_eq_true rfl) 
set_option maxHeartbeats 4000000 in
set_option maxRecDepth 100000 in
theorem xa_X4_hasValue (X : jX) (hX : jxok X) (s : Int) (js : jr s) (v : Int) (jv : jr v) (m : jM) (h : ¬ ((0 ≤ s ∧ s < 8))) : ConX X yX4_hasValue cX4_hasValue 3 (some .boolean) 12 [vR 2 38, vI s, vI v] m "java/lang/IndexOutOfBoundsException" := by
  refine ConX.of hX (by decide) (Nat.le_of_ble_eq_true rfl) (fun F hF hQ => ?_)
  refine g_iload_n hF (by decide +kernel : decode cX4_hasValue 0 = .ok (.iload_n 1, 1)) rfl ?_
  exact g_callXS hF hQ lkX4_51 (x_X4_checkSlot X hX _ (by omega) h _) (by decide +kernel : decode cX4_hasValue 1 = .ok (.invokestatic 51, 3)) (by decide) rfl rfl (Nat.le_of_ble_eq_true rfl) 
set_option maxHeartbeats 4000000 in
set_option maxRecDepth 100000 in
theorem xb_X4_hasValue (X : jX) (hX : jxok X) (s : Nat) (hs : s < 8) (v : Int) (jv : jr v) (m : jM) (hC : CI m) (h : ¬ (num v)) : ConX X yX4_hasValue cX4_hasValue 3 (some .boolean) 12 [vR 2 38, vI s, vI v] m "java/lang/IllegalArgumentException" := by
  refine ConX.of hX (by decide) (Nat.le_of_ble_eq_true rfl) (fun F hF hQ => ?_)
  refine g_iload_n hF (by decide +kernel : decode cX4_hasValue 0 = .ok (.iload_n 1, 1)) rfl ?_
  refine g_callS hF lkX4_51 (c_X4_checkSlot X hX _ (by omega) (by omega) _) (by decide +kernel : decode cX4_hasValue 1 = .ok (.invokestatic 51, 3)) (by decide) rfl rfl (Nat.le_of_ble_eq_true rfl) (fun v1 m1 h1 => ?_)
  obtain ⟨rfl, e1⟩ := h1
  obtain rfl := e1.symm
  refine g_iload_n hF (by decide +kernel : decode cX4_hasValue 4 = .ok (.iload_n 2, 1)) rfl ?_
  exact g_callXS hF hQ lkX4_55 (x_X4_checkNumber X hX _ (by omega) h _) (by decide +kernel : decode cX4_hasValue 5 = .ok (.invokestatic 55, 3)) (by decide) rfl rfl (Nat.le_of_ble_eq_true rfl) 
set_option maxHeartbeats 4000000 in
set_option maxRecDepth 100000 in
theorem xa_X4_size (X : jX) (hX : jxok X) (s : Int) (js : jr s) (m : jM) (h : ¬ ((0 ≤ s ∧ s < 8))) : ConX X yX4_size cX4_size 2 (some .int) 12 [vR 2 38, vI s] m "java/lang/IndexOutOfBoundsException" := by
  refine ConX.of hX (by decide) (Nat.le_of_ble_eq_true rfl) (fun F hF hQ => ?_)
  refine g_iload_n hF (by decide +kernel : decode cX4_size 0 = .ok (.iload_n 1, 1)) rfl ?_
  exact g_callXS hF hQ lkX4_51 (x_X4_checkSlot X hX _ (by omega) h _) (by decide +kernel : decode cX4_size 1 = .ok (.invokestatic 51, 3)) (by decide) rfl rfl (Nat.le_of_ble_eq_true rfl) 
set_option maxHeartbeats 4000000 in
set_option maxRecDepth 100000 in
theorem xa_X4_kinds (X : jX) (hX : jxok X) (s : Int) (js : jr s) (m : jM) (h : ¬ ((0 ≤ s ∧ s < 8))) : ConX X yX4_kinds cX4_kinds 2 (some .int) 12 [vR 2 38, vI s] m "java/lang/IndexOutOfBoundsException" := by
  refine ConX.of hX (by decide) (Nat.le_of_ble_eq_true rfl) (fun F hF hQ => ?_)
  refine g_iload_n hF (by decide +kernel : decode cX4_kinds 0 = .ok (.iload_n 1, 1)) rfl ?_
  exact g_callXS hF hQ lkX4_51 (x_X4_checkSlot X hX _ (by omega) h _) (by decide +kernel : decode cX4_kinds 1 = .ok (.invokestatic 51, 3)) (by decide) rfl rfl (Nat.le_of_ble_eq_true rfl) 
set_option maxHeartbeats 4000000 in
set_option maxRecDepth 100000 in
theorem xa_X4_hash (X : jX) (hX : jxok X) (s : Int) (js : jr s) (m : jM) (h : ¬ ((0 ≤ s ∧ s < 8))) : ConX X yX4_hash cX4_hash 2 (some .int) 12 [vR 2 38, vI s] m "java/lang/IndexOutOfBoundsException" := by
  refine ConX.of hX (by decide) (Nat.le_of_ble_eq_true rfl) (fun F hF hQ => ?_)
  refine g_iload_n hF (by decide +kernel : decode cX4_hash 0 = .ok (.iload_n 1, 1)) rfl ?_
  exact g_callXS hF hQ lkX4_51 (x_X4_checkSlot X hX _ (by omega) h _) (by decide +kernel : decode cX4_hash 1 = .ok (.invokestatic 51, 3)) (by decide) rfl rfl (Nat.le_of_ble_eq_true rfl) 
set_option maxHeartbeats 4000000 in
set_option maxRecDepth 100000 in
theorem xa_X4_keysHash (X : jX) (hX : jxok X) (s : Int) (js : jr s) (m : jM) (h : ¬ ((0 ≤ s ∧ s < 8))) : ConX X yX4_keysHash cX4_keysHash 2 (some .int) 12 [vR 2 38, vI s] m "java/lang/IndexOutOfBoundsException" := by
  refine ConX.of hX (by decide) (Nat.le_of_ble_eq_true rfl) (fun F hF hQ => ?_)
  refine g_iload_n hF (by decide +kernel : decode cX4_keysHash 0 = .ok (.iload_n 1, 1)) rfl ?_
  exact g_callXS hF hQ lkX4_51 (x_X4_checkSlot X hX _ (by omega) h _) (by decide +kernel : decode cX4_keysHash 1 = .ok (.invokestatic 51, 3)) (by decide) rfl rfl (Nat.le_of_ble_eq_true rfl) 
set_option maxHeartbeats 4000000 in
set_option maxRecDepth 100000 in
theorem xa_X4_dropValue (X : jX) (hX : jxok X) (s : Int) (js : jr s) (v : Int) (jv : jr v) (m : jM) (h : ¬ ((0 ≤ s ∧ s < 8))) : ConX X yX4_dropValue cX4_dropValue 3 (some .int) 12 [vR 2 38, vI s, vI v] m "java/lang/IndexOutOfBoundsException" := by
  refine ConX.of hX (by decide) (Nat.le_of_ble_eq_true rfl) (fun F hF hQ => ?_)
  refine g_iload_n hF (by decide +kernel : decode cX4_dropValue 0 = .ok (.iload_n 1, 1)) rfl ?_
  exact g_callXS hF hQ lkX4_51 (x_X4_checkSlot X hX _ (by omega) h _) (by decide +kernel : decode cX4_dropValue 1 = .ok (.invokestatic 51, 3)) (by decide) rfl rfl (Nat.le_of_ble_eq_true rfl) 
set_option maxHeartbeats 4000000 in
set_option maxRecDepth 100000 in
theorem xb_X4_dropValue (X : jX) (hX : jxok X) (s : Nat) (hs : s < 8) (v : Int) (jv : jr v) (m : jM) (hC : CI m) (h : ¬ (num v)) : ConX X yX4_dropValue cX4_dropValue 3 (some .int) 12 [vR 2 38, vI s, vI v] m "java/lang/IllegalArgumentException" := by
  refine ConX.of hX (by decide) (Nat.le_of_ble_eq_true rfl) (fun F hF hQ => ?_)
  refine g_iload_n hF (by decide +kernel : decode cX4_dropValue 0 = .ok (.iload_n 1, 1)) rfl ?_
  refine g_callS hF lkX4_51 (c_X4_checkSlot X hX _ (by omega) (by omega) _) (by decide +kernel : decode cX4_dropValue 1 = .ok (.invokestatic 51, 3)) (by decide) rfl rfl (Nat.le_of_ble_eq_true rfl) (fun v1 m1 h1 => ?_)
  obtain ⟨rfl, e1⟩ := h1
  obtain rfl := e1.symm
  refine g_iload_n hF (by decide +kernel : decode cX4_dropValue 4 = .ok (.iload_n 2, 1)) rfl ?_
  exact g_callXS hF hQ lkX4_55 (x_X4_checkNumber X hX _ (by omega) h _) (by decide +kernel : decode cX4_dropValue 5 = .ok (.invokestatic 55, 3)) (by decide) rfl rfl (Nat.le_of_ble_eq_true rfl) 
set_option maxHeartbeats 4000000 in
set_option maxRecDepth 100000 in
theorem xa_X4_dropOdd (X : jX) (hX : jxok X) (s : Int) (js : jr s) (m : jM) (h : ¬ ((0 ≤ s ∧ s < 8))) : ConX X yX4_dropOdd cX4_dropOdd 2 (some .int) 12 [vR 2 38, vI s] m "java/lang/IndexOutOfBoundsException" := by
  refine ConX.of hX (by decide) (Nat.le_of_ble_eq_true rfl) (fun F hF hQ => ?_)
  refine g_iload_n hF (by decide +kernel : decode cX4_dropOdd 0 = .ok (.iload_n 1, 1)) rfl ?_
  exact g_callXS hF hQ lkX4_51 (x_X4_checkSlot X hX _ (by omega) h _) (by decide +kernel : decode cX4_dropOdd 1 = .ok (.invokestatic 51, 3)) (by decide) rfl rfl (Nat.le_of_ble_eq_true rfl) 
set_option maxHeartbeats 4000000 in
set_option maxRecDepth 100000 in
theorem xa_X4_shift (X : jX) (hX : jxok X) (s : Int) (js : jr s) (b : Int) (jb : jr b) (m : jM) (h : ¬ ((0 ≤ s ∧ s < 8))) : ConX X yX4_shift cX4_shift 3 (some .int) 12 [vR 2 38, vI s, vI b] m "java/lang/IndexOutOfBoundsException" := by
  refine ConX.of hX (by decide) (Nat.le_of_ble_eq_true rfl) (fun F hF hQ => ?_)
  refine g_iload_n hF (by decide +kernel : decode cX4_shift 0 = .ok (.iload_n 1, 1)) rfl ?_
  exact g_callXS hF hQ lkX4_51 (x_X4_checkSlot X hX _ (by omega) h _) (by decide +kernel : decode cX4_shift 1 = .ok (.invokestatic 51, 3)) (by decide) rfl rfl (Nat.le_of_ble_eq_true rfl) 
set_option maxHeartbeats 4000000 in
set_option maxRecDepth 100000 in
theorem xb_X4_shift (X : jX) (hX : jxok X) (s : Nat) (hs : s < 8) (b : Int) (jb : jr b) (m : jM) (hC : CI m) (h : ¬ ((0 ≤ b ∧ b ≤ 255))) : ConX X yX4_shift cX4_shift 3 (some .int) 12 [vR 2 38, vI s, vI b] m "java/lang/IllegalArgumentException" := by
  refine ConX.of hX (by decide) (Nat.le_of_ble_eq_true rfl) (fun F hF hQ => ?_)
  refine g_iload_n hF (by decide +kernel : decode cX4_shift 0 = .ok (.iload_n 1, 1)) rfl ?_
  refine g_callS hF lkX4_51 (c_X4_checkSlot X hX _ (by omega) (by omega) _) (by decide +kernel : decode cX4_shift 1 = .ok (.invokestatic 51, 3)) (by decide) rfl rfl (Nat.le_of_ble_eq_true rfl) (fun v1 m1 h1 => ?_)
  obtain ⟨rfl, e1⟩ := h1
  obtain rfl := e1.symm
  refine g_iload_n hF (by decide +kernel : decode cX4_shift 4 = .ok (.iload_n 2, 1)) rfl ?_
  refine g_iconst hF (by decide +kernel : decode cX4_shift 5 = .ok (.iconst 0, 1)) ?_
  refine g_sipush hF (by decide +kernel : decode cX4_shift 6 = .ok (.sipush 255, 3)) (by decide) ?_
  exact g_callXS hF hQ lkX4_70 (x_X4_checkRange X hX _ _ _ (by omega) (by omega) (by omega) h _) (by decide +kernel : decode cX4_shift 9 = .ok (.invokestatic 70, 3)) (by decide) rfl rfl (Nat.le_of_ble_eq_true rfl) 
set_option maxHeartbeats 4000000 in
set_option maxRecDepth 100000 in
theorem xa_X4_isInto (X : jX) (hX : jxok X) (s : Int) (js : jr s) (m : jM) (h : ¬ ((0 ≤ s ∧ s < 8))) : ConX X yX4_isInto cX4_isInto 2 (some .boolean) 12 [vR 2 38, vI s] m "java/lang/IndexOutOfBoundsException" := by
  refine ConX.of hX (by decide) (Nat.le_of_ble_eq_true rfl) (fun F hF hQ => ?_)
  refine g_iload_n hF (by decide +kernel : decode cX4_isInto 0 = .ok (.iload_n 1, 1)) rfl ?_
  exact g_callXS hF hQ lkX4_51 (x_X4_checkSlot X hX _ (by omega) h _) (by decide +kernel : decode cX4_isInto 1 = .ok (.invokestatic 51, 3)) (by decide) rfl rfl (Nat.le_of_ble_eq_true rfl) 
set_option maxHeartbeats 4000000 in
set_option maxRecDepth 100000 in
theorem xa_X4_fixed (X : jX) (hX : jxok X) (s : Int) (js : jr s) (m : jM) (h : ¬ ((0 ≤ s ∧ s < 8))) : ConX X yX4_fixed cX4_fixed 2 (some .int) 12 [vR 2 38, vI s] m "java/lang/IndexOutOfBoundsException" := by
  refine ConX.of hX (by decide) (Nat.le_of_ble_eq_true rfl) (fun F hF hQ => ?_)
  refine g_iload_n hF (by decide +kernel : decode cX4_fixed 0 = .ok (.iload_n 1, 1)) rfl ?_
  exact g_callXS hF hQ lkX4_51 (x_X4_checkSlot X hX _ (by omega) h _) (by decide +kernel : decode cX4_fixed 1 = .ok (.invokestatic 51, 3)) (by decide) rfl rfl (Nat.le_of_ble_eq_true rfl) 
set_option maxHeartbeats 4000000 in
set_option maxRecDepth 100000 in
theorem xa_X4_play (X : jX) (hX : jxok X) (u : Int) (ju : jr u) (m : jM) (h : ¬ ((0 ≤ u ∧ u < 8))) : ConX X yX4_play cX4_play 2 (some .int) 12 [vR 2 38, vI u] m "java/lang/IndexOutOfBoundsException" := by
  refine ConX.of hX (by decide) (Nat.le_of_ble_eq_true rfl) (fun F hF hQ => ?_)
  refine g_iload_n hF (by decide +kernel : decode cX4_play 0 = .ok (.iload_n 1, 1)) rfl ?_
  exact g_callXS hF hQ lkX4_51 (x_X4_checkSlot X hX _ (by omega) h _) (by decide +kernel : decode cX4_play 1 = .ok (.invokestatic 51, 3)) (by decide) rfl rfl (Nat.le_of_ble_eq_true rfl) 
set_option maxHeartbeats 4000000 in
set_option maxRecDepth 100000 in
theorem xa_X4_playLast (X : jX) (hX : jxok X) (u : Int) (ju : jr u) (b : Int) (jb : jr b) (m : jM) (h : ¬ ((0 ≤ u ∧ u < 8))) : ConX X yX4_playLast cX4_playLast 3 (some .int) 12 [vR 2 38, vI u, vI b] m "java/lang/IndexOutOfBoundsException" := by
  refine ConX.of hX (by decide) (Nat.le_of_ble_eq_true rfl) (fun F hF hQ => ?_)
  refine g_iload_n hF (by decide +kernel : decode cX4_playLast 0 = .ok (.iload_n 1, 1)) rfl ?_
  exact g_callXS hF hQ lkX4_51 (x_X4_checkSlot X hX _ (by omega) h _) (by decide +kernel : decode cX4_playLast 1 = .ok (.invokestatic 51, 3)) (by decide) rfl rfl (Nat.le_of_ble_eq_true rfl) 
set_option maxHeartbeats 4000000 in
set_option maxRecDepth 100000 in
theorem xa_X4_keyAt (X : jX) (hX : jxok X) (s : Int) (js : jr s) (p : Int) (jp : jr p) (m : jM) (h : ¬ ((0 ≤ s ∧ s < 8))) : ConX X yX4_keyAt cX4_keyAt 3 (some .int) 12 [vR 2 38, vI s, vI p] m "java/lang/IndexOutOfBoundsException" := by
  refine ConX.of hX (by decide) (Nat.le_of_ble_eq_true rfl) (fun F hF hQ => ?_)
  refine g_iload_n hF (by decide +kernel : decode cX4_keyAt 0 = .ok (.iload_n 1, 1)) rfl ?_
  exact g_callXS hF hQ lkX4_51 (x_X4_checkSlot X hX _ (by omega) h _) (by decide +kernel : decode cX4_keyAt 1 = .ok (.invokestatic 51, 3)) (by decide) rfl rfl (Nat.le_of_ble_eq_true rfl) 
set_option maxHeartbeats 4000000 in
set_option maxRecDepth 100000 in
theorem xa_X4_order (X : jX) (hX : jxok X) (s : Int) (js : jr s) (m : jM) (h : ¬ ((0 ≤ s ∧ s < 8))) : ConX X yX4_order cX4_order 2 (some .long) 12 [vR 2 38, vI s] m "java/lang/IndexOutOfBoundsException" := by
  refine ConX.of hX (by decide) (Nat.le_of_ble_eq_true rfl) (fun F hF hQ => ?_)
  refine g_iload_n hF (by decide +kernel : decode cX4_order 0 = .ok (.iload_n 1, 1)) rfl ?_
  exact g_callXS hF hQ lkX4_51 (x_X4_checkSlot X hX _ (by omega) h _) (by decide +kernel : decode cX4_order 1 = .ok (.invokestatic 51, 3)) (by decide) rfl rfl (Nat.le_of_ble_eq_true rfl) 
set_option maxHeartbeats 4000000 in
set_option maxRecDepth 100000 in
theorem xa_X4_share (X : jX) (hX : jxok X) (s : Int) (js : jr s) (m : jM) (h : ¬ ((0 ≤ s ∧ s < 8))) : ConX X yX4_share cX4_share 3 (some .float) 12 [vR 2 38, vI s] m "java/lang/IndexOutOfBoundsException" := by
  refine ConX.of hX (by decide) (Nat.le_of_ble_eq_true rfl) (fun F hF hQ => ?_)
  refine g_iload_n hF (by decide +kernel : decode cX4_share 0 = .ok (.iload_n 1, 1)) rfl ?_
  exact g_callXS hF hQ lkX4_51 (x_X4_checkSlot X hX _ (by omega) h _) (by decide +kernel : decode cX4_share 1 = .ok (.invokestatic 51, 3)) (by decide) rfl rfl (Nat.le_of_ble_eq_true rfl) 
set_option maxHeartbeats 4000000 in
set_option maxRecDepth 100000 in
theorem xa_X4_merge (X : jX) (hX : jxok X) (s : Int) (js : jr s) (k : Int) (jk : jr k) (v : Int) (jv : jr v) (h0 : Int) (jh0 : jr h0) (m : jM) (h : ¬ ((0 ≤ s ∧ s < 8))) : ConX X yX4_merge cX4_merge 6 (some .int) 12 [vR 2 38, vI s, vI k, vI v, vI h0] m "java/lang/IndexOutOfBoundsException" := by
  refine ConX.of hX (by decide) (Nat.le_of_ble_eq_true rfl) (fun F hF hQ => ?_)
  refine g_iload_n hF (by decide +kernel : decode cX4_merge 0 = .ok (.iload_n 1, 1)) rfl ?_
  exact g_callXS hF hQ lkX4_51 (x_X4_checkSlot X hX _ (by omega) h _) (by decide +kernel : decode cX4_merge 1 = .ok (.invokestatic 51, 3)) (by decide) rfl rfl (Nat.le_of_ble_eq_true rfl) 
set_option maxHeartbeats 4000000 in
set_option maxRecDepth 100000 in
theorem xa_X4_compute (X : jX) (hX : jxok X) (s : Int) (js : jr s) (k : Int) (jk : jr k) (h0 : Int) (jh0 : jr h0) (m : jM) (h : ¬ ((0 ≤ s ∧ s < 8))) : ConX X yX4_compute cX4_compute 5 (some .int) 12 [vR 2 38, vI s, vI k, vI h0] m "java/lang/IndexOutOfBoundsException" := by
  refine ConX.of hX (by decide) (Nat.le_of_ble_eq_true rfl) (fun F hF hQ => ?_)
  refine g_iload_n hF (by decide +kernel : decode cX4_compute 0 = .ok (.iload_n 1, 1)) rfl ?_
  exact g_callXS hF hQ lkX4_51 (x_X4_checkSlot X hX _ (by omega) h _) (by decide +kernel : decode cX4_compute 1 = .ok (.invokestatic 51, 3)) (by decide) rfl rfl (Nat.le_of_ble_eq_true rfl) 
set_option maxHeartbeats 4000000 in
set_option maxRecDepth 100000 in
theorem xa_X4_isSame (X : jX) (hX : jxok X) (s : Int) (js : jr s) (u : Int) (ju : jr u) (m : jM) (h : ¬ ((0 ≤ s ∧ s < 8) ∧ (0 ≤ u ∧ u < 8))) : ConX X yX4_isSame cX4_isSame 3 (some .boolean) 12 [vR 2 38, vI s, vI u] m "java/lang/IndexOutOfBoundsException" := by
  refine ConX.of hX (by decide) (Nat.le_of_ble_eq_true rfl) (fun F hF hQ => ?_)
  refine g_iload_n hF (by decide +kernel : decode cX4_isSame 0 = .ok (.iload_n 1, 1)) rfl ?_
  rcases Classical.em (0 ≤ s ∧ s < 8) with s1 | s1
  · skip
    refine g_callS hF lkX4_51 (c_X4_checkSlot X hX _ (by omega) (by omega) _) (by decide +kernel : decode cX4_isSame 1 = .ok (.invokestatic 51, 3)) (by decide) rfl rfl (Nat.le_of_ble_eq_true rfl) (fun v1 m1 h1 => ?_)
    obtain ⟨rfl, e1⟩ := h1
    obtain rfl := e1.symm
    refine g_iload_n hF (by decide +kernel : decode cX4_isSame 4 = .ok (.iload_n 2, 1)) rfl ?_
    exact g_callXS hF hQ lkX4_51 (x_X4_checkSlot X hX _ (by omega) (fun q => h ⟨s1, q⟩) _) (by decide +kernel : decode cX4_isSame 5 = .ok (.invokestatic 51, 3)) (by decide) rfl rfl (Nat.le_of_ble_eq_true rfl) 
  · exact g_callXS hF hQ lkX4_51 (x_X4_checkSlot X hX _ (by omega) s1 _) (by decide +kernel : decode cX4_isSame 1 = .ok (.invokestatic 51, 3)) (by decide) rfl rfl (Nat.le_of_ble_eq_true rfl)
set_option maxHeartbeats 4000000 in
set_option maxRecDepth 100000 in
theorem xa_X4_areSameKeys (X : jX) (hX : jxok X) (s : Int) (js : jr s) (u : Int) (ju : jr u) (m : jM) (h : ¬ ((0 ≤ s ∧ s < 8) ∧ (0 ≤ u ∧ u < 8))) : ConX X yX4_areSameKeys cX4_areSameKeys 3 (some .boolean) 12 [vR 2 38, vI s, vI u] m "java/lang/IndexOutOfBoundsException" := by
  refine ConX.of hX (by decide) (Nat.le_of_ble_eq_true rfl) (fun F hF hQ => ?_)
  refine g_iload_n hF (by decide +kernel : decode cX4_areSameKeys 0 = .ok (.iload_n 1, 1)) rfl ?_
  rcases Classical.em (0 ≤ s ∧ s < 8) with s1 | s1
  · skip
    refine g_callS hF lkX4_51 (c_X4_checkSlot X hX _ (by omega) (by omega) _) (by decide +kernel : decode cX4_areSameKeys 1 = .ok (.invokestatic 51, 3)) (by decide) rfl rfl (Nat.le_of_ble_eq_true rfl) (fun v1 m1 h1 => ?_)
    obtain ⟨rfl, e1⟩ := h1
    obtain rfl := e1.symm
    refine g_iload_n hF (by decide +kernel : decode cX4_areSameKeys 4 = .ok (.iload_n 2, 1)) rfl ?_
    exact g_callXS hF hQ lkX4_51 (x_X4_checkSlot X hX _ (by omega) (fun q => h ⟨s1, q⟩) _) (by decide +kernel : decode cX4_areSameKeys 5 = .ok (.invokestatic 51, 3)) (by decide) rfl rfl (Nat.le_of_ble_eq_true rfl) 
  · exact g_callXS hF hQ lkX4_51 (x_X4_checkSlot X hX _ (by omega) s1 _) (by decide +kernel : decode cX4_areSameKeys 1 = .ok (.invokestatic 51, 3)) (by decide) rfl rfl (Nat.le_of_ble_eq_true rfl)
set_option maxHeartbeats 4000000 in
set_option maxRecDepth 100000 in
theorem xa_X4_areSameValues (X : jX) (hX : jxok X) (s : Int) (js : jr s) (u : Int) (ju : jr u) (m : jM) (h : ¬ ((0 ≤ s ∧ s < 8) ∧ (0 ≤ u ∧ u < 8))) : ConX X yX4_areSameValues cX4_areSameValues 3 (some .boolean) 12 [vR 2 38, vI s, vI u] m "java/lang/IndexOutOfBoundsException" := by
  refine ConX.of hX (by decide) (Nat.le_of_ble_eq_true rfl) (fun F hF hQ => ?_)
  refine g_iload_n hF (by decide +kernel : decode cX4_areSameValues 0 = .ok (.iload_n 1, 1)) rfl ?_
  rcases Classical.em (0 ≤ s ∧ s < 8) with s1 | s1
  · skip
    refine g_callS hF lkX4_51 (c_X4_checkSlot X hX _ (by omega) (by omega) _) (by decide +kernel : decode cX4_areSameValues 1 = .ok (.invokestatic 51, 3)) (by decide) rfl rfl (Nat.le_of_ble_eq_true rfl) (fun v1 m1 h1 => ?_)
    obtain ⟨rfl, e1⟩ := h1
    obtain rfl := e1.symm
    refine g_iload_n hF (by decide +kernel : decode cX4_areSameValues 4 = .ok (.iload_n 2, 1)) rfl ?_
    exact g_callXS hF hQ lkX4_51 (x_X4_checkSlot X hX _ (by omega) (fun q => h ⟨s1, q⟩) _) (by decide +kernel : decode cX4_areSameValues 5 = .ok (.invokestatic 51, 3)) (by decide) rfl rfl (Nat.le_of_ble_eq_true rfl) 
  · exact g_callXS hF hQ lkX4_51 (x_X4_checkSlot X hX _ (by omega) s1 _) (by decide +kernel : decode cX4_areSameValues 1 = .ok (.invokestatic 51, 3)) (by decide) rfl rfl (Nat.le_of_ble_eq_true rfl)
set_option maxHeartbeats 4000000 in
set_option maxRecDepth 100000 in
theorem xa_X4_copy (X : jX) (hX : jxok X) (s : Int) (js : jr s) (u : Int) (ju : jr u) (m : jM) (h : ¬ ((0 ≤ s ∧ s < 8) ∧ (0 ≤ u ∧ u < 8))) : ConX X yX4_copy cX4_copy 3 (some .int) 12 [vR 2 38, vI s, vI u] m "java/lang/IndexOutOfBoundsException" := by
  refine ConX.of hX (by decide) (Nat.le_of_ble_eq_true rfl) (fun F hF hQ => ?_)
  refine g_iload_n hF (by decide +kernel : decode cX4_copy 0 = .ok (.iload_n 1, 1)) rfl ?_
  rcases Classical.em (0 ≤ s ∧ s < 8) with s1 | s1
  · skip
    refine g_callS hF lkX4_51 (c_X4_checkSlot X hX _ (by omega) (by omega) _) (by decide +kernel : decode cX4_copy 1 = .ok (.invokestatic 51, 3)) (by decide) rfl rfl (Nat.le_of_ble_eq_true rfl) (fun v1 m1 h1 => ?_)
    obtain ⟨rfl, e1⟩ := h1
    obtain rfl := e1.symm
    refine g_iload_n hF (by decide +kernel : decode cX4_copy 4 = .ok (.iload_n 2, 1)) rfl ?_
    exact g_callXS hF hQ lkX4_51 (x_X4_checkSlot X hX _ (by omega) (fun q => h ⟨s1, q⟩) _) (by decide +kernel : decode cX4_copy 5 = .ok (.invokestatic 51, 3)) (by decide) rfl rfl (Nat.le_of_ble_eq_true rfl) 
  · exact g_callXS hF hQ lkX4_51 (x_X4_checkSlot X hX _ (by omega) s1 _) (by decide +kernel : decode cX4_copy 1 = .ok (.invokestatic 51, 3)) (by decide) rfl rfl (Nat.le_of_ble_eq_true rfl)
set_option maxHeartbeats 4000000 in
set_option maxRecDepth 100000 in
theorem xa_X4_turn (X : jX) (hX : jxok X) (s : Int) (js : jr s) (u : Int) (ju : jr u) (m : jM) (h : ¬ ((0 ≤ s ∧ s < 8) ∧ (0 ≤ u ∧ u < 8))) : ConX X yX4_turn cX4_turn 3 (some .int) 12 [vR 2 38, vI s, vI u] m "java/lang/IndexOutOfBoundsException" := by
  refine ConX.of hX (by decide) (Nat.le_of_ble_eq_true rfl) (fun F hF hQ => ?_)
  refine g_iload_n hF (by decide +kernel : decode cX4_turn 0 = .ok (.iload_n 1, 1)) rfl ?_
  rcases Classical.em (0 ≤ s ∧ s < 8) with s1 | s1
  · skip
    refine g_callS hF lkX4_51 (c_X4_checkSlot X hX _ (by omega) (by omega) _) (by decide +kernel : decode cX4_turn 1 = .ok (.invokestatic 51, 3)) (by decide) rfl rfl (Nat.le_of_ble_eq_true rfl) (fun v1 m1 h1 => ?_)
    obtain ⟨rfl, e1⟩ := h1
    obtain rfl := e1.symm
    refine g_iload_n hF (by decide +kernel : decode cX4_turn 4 = .ok (.iload_n 2, 1)) rfl ?_
    exact g_callXS hF hQ lkX4_51 (x_X4_checkSlot X hX _ (by omega) (fun q => h ⟨s1, q⟩) _) (by decide +kernel : decode cX4_turn 5 = .ok (.invokestatic 51, 3)) (by decide) rfl rfl (Nat.le_of_ble_eq_true rfl) 
  · exact g_callXS hF hQ lkX4_51 (x_X4_checkSlot X hX _ (by omega) s1 _) (by decide +kernel : decode cX4_turn 1 = .ok (.invokestatic 51, 3)) (by decide) rfl rfl (Nat.le_of_ble_eq_true rfl)
set_option maxHeartbeats 4000000 in
set_option maxRecDepth 100000 in
theorem xa_X4_power (X : jX) (hX : jxok X) (s : Int) (js : jr s) (e : Int) (je : jr e) (u : Int) (ju : jr u) (m : jM) (h : ¬ ((0 ≤ s ∧ s < 8) ∧ (0 ≤ u ∧ u < 8))) : ConX X yX4_power cX4_power 4 (some .int) 12 [vR 2 38, vI s, vI e, vI u] m "java/lang/IndexOutOfBoundsException" := by
  refine ConX.of hX (by decide) (Nat.le_of_ble_eq_true rfl) (fun F hF hQ => ?_)
  refine g_iload_n hF (by decide +kernel : decode cX4_power 0 = .ok (.iload_n 1, 1)) rfl ?_
  rcases Classical.em (0 ≤ s ∧ s < 8) with s1 | s1
  · skip
    refine g_callS hF lkX4_51 (c_X4_checkSlot X hX _ (by omega) (by omega) _) (by decide +kernel : decode cX4_power 1 = .ok (.invokestatic 51, 3)) (by decide) rfl rfl (Nat.le_of_ble_eq_true rfl) (fun v1 m1 h1 => ?_)
    obtain ⟨rfl, e1⟩ := h1
    obtain rfl := e1.symm
    refine g_iload_n hF (by decide +kernel : decode cX4_power 4 = .ok (.iload_n 3, 1)) rfl ?_
    exact g_callXS hF hQ lkX4_51 (x_X4_checkSlot X hX _ (by omega) (fun q => h ⟨s1, q⟩) _) (by decide +kernel : decode cX4_power 5 = .ok (.invokestatic 51, 3)) (by decide) rfl rfl (Nat.le_of_ble_eq_true rfl) 
  · exact g_callXS hF hQ lkX4_51 (x_X4_checkSlot X hX _ (by omega) s1 _) (by decide +kernel : decode cX4_power 1 = .ok (.invokestatic 51, 3)) (by decide) rfl rfl (Nat.le_of_ble_eq_true rfl)
set_option maxHeartbeats 4000000 in
set_option maxRecDepth 100000 in
theorem xa_X4_join (X : jX) (hX : jxok X) (s : Int) (js : jr s) (u : Int) (ju : jr u) (w : Int) (jw : jr w) (m : jM) (h : ¬ ((0 ≤ s ∧ s < 8) ∧ (0 ≤ u ∧ u < 8) ∧ (0 ≤ w ∧ w < 8))) : ConX X yX4_join cX4_join 4 (some .int) 12 [vR 2 38, vI s, vI u, vI w] m "java/lang/IndexOutOfBoundsException" := by
  refine ConX.of hX (by decide) (Nat.le_of_ble_eq_true rfl) (fun F hF hQ => ?_)
  refine g_iload_n hF (by decide +kernel : decode cX4_join 0 = .ok (.iload_n 1, 1)) rfl ?_
  rcases Classical.em (0 ≤ s ∧ s < 8) with s1 | s1
  · skip
    refine g_callS hF lkX4_51 (c_X4_checkSlot X hX _ (by omega) (by omega) _) (by decide +kernel : decode cX4_join 1 = .ok (.invokestatic 51, 3)) (by decide) rfl rfl (Nat.le_of_ble_eq_true rfl) (fun v1 m1 h1 => ?_)
    obtain ⟨rfl, e1⟩ := h1
    obtain rfl := e1.symm
    refine g_iload_n hF (by decide +kernel : decode cX4_join 4 = .ok (.iload_n 2, 1)) rfl ?_
    rcases Classical.em (0 ≤ u ∧ u < 8) with s5 | s5
    · skip
      refine g_callS hF lkX4_51 (c_X4_checkSlot X hX _ (by omega) (by omega) _) (by decide +kernel : decode cX4_join 5 = .ok (.invokestatic 51, 3)) (by decide) rfl rfl (Nat.le_of_ble_eq_true rfl) (fun v5 m5 h5 => ?_)
      obtain ⟨rfl, e5⟩ := h5
      obtain rfl := e5.symm
      refine g_iload_n hF (by decide +kernel : decode cX4_join 8 = .ok (.iload_n 3, 1)) rfl ?_
      exact g_callXS hF hQ lkX4_51 (x_X4_checkSlot X hX _ (by omega) (fun q => h ⟨s1, s5, q⟩) _) (by decide +kernel : decode cX4_join 9 = .ok (.invokestatic 51, 3)) (by decide) rfl rfl (Nat.le_of_ble_eq_true rfl) 
    · exact g_callXS hF hQ lkX4_51 (x_X4_checkSlot X hX _ (by omega) s5 _) (by decide +kernel : decode cX4_join 5 = .ok (.invokestatic 51, 3)) (by decide) rfl rfl (Nat.le_of_ble_eq_true rfl)
  · exact g_callXS hF hQ lkX4_51 (x_X4_checkSlot X hX _ (by omega) s1 _) (by decide +kernel : decode cX4_join 1 = .ok (.invokestatic 51, 3)) (by decide) rfl rfl (Nat.le_of_ble_eq_true rfl)
set_option maxHeartbeats 4000000 in
set_option maxRecDepth 100000 in
theorem xa_X4_less (X : jX) (hX : jxok X) (s : Int) (js : jr s) (u : Int) (ju : jr u) (w : Int) (jw : jr w) (m : jM) (h : ¬ ((0 ≤ s ∧ s < 8) ∧ (0 ≤ u ∧ u < 8) ∧ (0 ≤ w ∧ w < 8))) : ConX X yX4_less cX4_less 4 (some .int) 12 [vR 2 38, vI s, vI u, vI w] m "java/lang/IndexOutOfBoundsException" := by
  refine ConX.of hX (by decide) (Nat.le_of_ble_eq_true rfl) (fun F hF hQ => ?_)
  refine g_iload_n hF (by decide +kernel : decode cX4_less 0 = .ok (.iload_n 1, 1)) rfl ?_
  rcases Classical.em (0 ≤ s ∧ s < 8) with s1 | s1
  · skip
    refine g_callS hF lkX4_51 (c_X4_checkSlot X hX _ (by omega) (by omega) _) (by decide +kernel : decode cX4_less 1 = .ok (.invokestatic 51, 3)) (by decide) rfl rfl (Nat.le_of_ble_eq_true rfl) (fun v1 m1 h1 => ?_)
    obtain ⟨rfl, e1⟩ := h1
    obtain rfl := e1.symm
    refine g_iload_n hF (by decide +kernel : decode cX4_less 4 = .ok (.iload_n 2, 1)) rfl ?_
    rcases Classical.em (0 ≤ u ∧ u < 8) with s5 | s5
    · skip
      refine g_callS hF lkX4_51 (c_X4_checkSlot X hX _ (by omega) (by omega) _) (by decide +kernel : decode cX4_less 5 = .ok (.invokestatic 51, 3)) (by decide) rfl rfl (Nat.le_of_ble_eq_true rfl) (fun v5 m5 h5 => ?_)
      obtain ⟨rfl, e5⟩ := h5
      obtain rfl := e5.symm
      refine g_iload_n hF (by decide +kernel : decode cX4_less 8 = .ok (.iload_n 3, 1)) rfl ?_
      exact g_callXS hF hQ lkX4_51 (x_X4_checkSlot X hX _ (by omega) (fun q => h ⟨s1, s5, q⟩) _) (by decide +kernel : decode cX4_less 9 = .ok (.invokestatic 51, 3)) (by decide) rfl rfl (Nat.le_of_ble_eq_true rfl) 
    · exact g_callXS hF hQ lkX4_51 (x_X4_checkSlot X hX _ (by omega) s5 _) (by decide +kernel : decode cX4_less 5 = .ok (.invokestatic 51, 3)) (by decide) rfl rfl (Nat.le_of_ble_eq_true rfl)
  · exact g_callXS hF hQ lkX4_51 (x_X4_checkSlot X hX _ (by omega) s1 _) (by decide +kernel : decode cX4_less 1 = .ok (.invokestatic 51, 3)) (by decide) rfl rfl (Nat.le_of_ble_eq_true rfl)
set_option maxHeartbeats 4000000 in
set_option maxRecDepth 100000 in
theorem xa_X4_common (X : jX) (hX : jxok X) (s : Int) (js : jr s) (u : Int) (ju : jr u) (w : Int) (jw : jr w) (m : jM) (h : ¬ ((0 ≤ s ∧ s < 8) ∧ (0 ≤ u ∧ u < 8) ∧ (0 ≤ w ∧ w < 8))) : ConX X yX4_common cX4_common 4 (some .int) 12 [vR 2 38, vI s, vI u, vI w] m "java/lang/IndexOutOfBoundsException" := by
  refine ConX.of hX (by decide) (Nat.le_of_ble_eq_true rfl) (fun F hF hQ => ?_)
  refine g_iload_n hF (by decide +kernel : decode cX4_common 0 = .ok (.iload_n 1, 1)) rfl ?_
  rcases Classical.em (0 ≤ s ∧ s < 8) with s1 | s1
  · skip
    refine g_callS hF lkX4_51 (c_X4_checkSlot X hX _ (by omega) (by omega) _) (by decide +kernel : decode cX4_common 1 = .ok (.invokestatic 51, 3)) (by decide) rfl rfl (Nat.le_of_ble_eq_true rfl) (fun v1 m1 h1 => ?_)
    obtain ⟨rfl, e1⟩ := h1
    obtain rfl := e1.symm
    refine g_iload_n hF (by decide +kernel : decode cX4_common 4 = .ok (.iload_n 2, 1)) rfl ?_
    rcases Classical.em (0 ≤ u ∧ u < 8) with s5 | s5
    · skip
      refine g_callS hF lkX4_51 (c_X4_checkSlot X hX _ (by omega) (by omega) _) (by decide +kernel : decode cX4_common 5 = .ok (.invokestatic 51, 3)) (by decide) rfl rfl (Nat.le_of_ble_eq_true rfl) (fun v5 m5 h5 => ?_)
      obtain ⟨rfl, e5⟩ := h5
      obtain rfl := e5.symm
      refine g_iload_n hF (by decide +kernel : decode cX4_common 8 = .ok (.iload_n 3, 1)) rfl ?_
      exact g_callXS hF hQ lkX4_51 (x_X4_checkSlot X hX _ (by omega) (fun q => h ⟨s1, s5, q⟩) _) (by decide +kernel : decode cX4_common 9 = .ok (.invokestatic 51, 3)) (by decide) rfl rfl (Nat.le_of_ble_eq_true rfl) 
    · exact g_callXS hF hQ lkX4_51 (x_X4_checkSlot X hX _ (by omega) s5 _) (by decide +kernel : decode cX4_common 5 = .ok (.invokestatic 51, 3)) (by decide) rfl rfl (Nat.le_of_ble_eq_true rfl)
  · exact g_callXS hF hQ lkX4_51 (x_X4_checkSlot X hX _ (by omega) s1 _) (by decide +kernel : decode cX4_common 1 = .ok (.invokestatic 51, 3)) (by decide) rfl rfl (Nat.le_of_ble_eq_true rfl)
set_option maxHeartbeats 4000000 in
set_option maxRecDepth 100000 in
theorem xa_X4_alike (X : jX) (hX : jxok X) (s : Int) (js : jr s) (u : Int) (ju : jr u) (w : Int) (jw : jr w) (m : jM) (h : ¬ ((0 ≤ s ∧ s < 8) ∧ (0 ≤ u ∧ u < 8) ∧ (0 ≤ w ∧ w < 8))) : ConX X yX4_alike cX4_alike 4 (some .int) 12 [vR 2 38, vI s, vI u, vI w] m "java/lang/IndexOutOfBoundsException" := by
  refine ConX.of hX (by decide) (Nat.le_of_ble_eq_true rfl) (fun F hF hQ => ?_)
  refine g_iload_n hF (by decide +kernel : decode cX4_alike 0 = .ok (.iload_n 1, 1)) rfl ?_
  rcases Classical.em (0 ≤ s ∧ s < 8) with s1 | s1
  · skip
    refine g_callS hF lkX4_51 (c_X4_checkSlot X hX _ (by omega) (by omega) _) (by decide +kernel : decode cX4_alike 1 = .ok (.invokestatic 51, 3)) (by decide) rfl rfl (Nat.le_of_ble_eq_true rfl) (fun v1 m1 h1 => ?_)
    obtain ⟨rfl, e1⟩ := h1
    obtain rfl := e1.symm
    refine g_iload_n hF (by decide +kernel : decode cX4_alike 4 = .ok (.iload_n 2, 1)) rfl ?_
    rcases Classical.em (0 ≤ u ∧ u < 8) with s5 | s5
    · skip
      refine g_callS hF lkX4_51 (c_X4_checkSlot X hX _ (by omega) (by omega) _) (by decide +kernel : decode cX4_alike 5 = .ok (.invokestatic 51, 3)) (by decide) rfl rfl (Nat.le_of_ble_eq_true rfl) (fun v5 m5 h5 => ?_)
      obtain ⟨rfl, e5⟩ := h5
      obtain rfl := e5.symm
      refine g_iload_n hF (by decide +kernel : decode cX4_alike 8 = .ok (.iload_n 3, 1)) rfl ?_
      exact g_callXS hF hQ lkX4_51 (x_X4_checkSlot X hX _ (by omega) (fun q => h ⟨s1, s5, q⟩) _) (by decide +kernel : decode cX4_alike 9 = .ok (.invokestatic 51, 3)) (by decide) rfl rfl (Nat.le_of_ble_eq_true rfl) 
    · exact g_callXS hF hQ lkX4_51 (x_X4_checkSlot X hX _ (by omega) s5 _) (by decide +kernel : decode cX4_alike 5 = .ok (.invokestatic 51, 3)) (by decide) rfl rfl (Nat.le_of_ble_eq_true rfl)
  · exact g_callXS hF hQ lkX4_51 (x_X4_checkSlot X hX _ (by omega) s1 _) (by decide +kernel : decode cX4_alike 1 = .ok (.invokestatic 51, 3)) (by decide) rfl rfl (Nat.le_of_ble_eq_true rfl)
set_option maxHeartbeats 4000000 in
set_option maxRecDepth 100000 in
theorem xa_X4_behind (X : jX) (hX : jxok X) (s : Int) (js : jr s) (u : Int) (ju : jr u) (w : Int) (jw : jr w) (m : jM) (h : ¬ ((0 ≤ s ∧ s < 8) ∧ (0 ≤ u ∧ u < 8) ∧ (0 ≤ w ∧ w < 8))) : ConX X yX4_behind cX4_behind 4 (some .int) 12 [vR 2 38, vI s, vI u, vI w] m "java/lang/IndexOutOfBoundsException" := by
  refine ConX.of hX (by decide) (Nat.le_of_ble_eq_true rfl) (fun F hF hQ => ?_)
  refine g_iload_n hF (by decide +kernel : decode cX4_behind 0 = .ok (.iload_n 1, 1)) rfl ?_
  rcases Classical.em (0 ≤ s ∧ s < 8) with s1 | s1
  · skip
    refine g_callS hF lkX4_51 (c_X4_checkSlot X hX _ (by omega) (by omega) _) (by decide +kernel : decode cX4_behind 1 = .ok (.invokestatic 51, 3)) (by decide) rfl rfl (Nat.le_of_ble_eq_true rfl) (fun v1 m1 h1 => ?_)
    obtain ⟨rfl, e1⟩ := h1
    obtain rfl := e1.symm
    refine g_iload_n hF (by decide +kernel : decode cX4_behind 4 = .ok (.iload_n 2, 1)) rfl ?_
    rcases Classical.em (0 ≤ u ∧ u < 8) with s5 | s5
    · skip
      refine g_callS hF lkX4_51 (c_X4_checkSlot X hX _ (by omega) (by omega) _) (by decide +kernel : decode cX4_behind 5 = .ok (.invokestatic 51, 3)) (by decide) rfl rfl (Nat.le_of_ble_eq_true rfl) (fun v5 m5 h5 => ?_)
      obtain ⟨rfl, e5⟩ := h5
      obtain rfl := e5.symm
      refine g_iload_n hF (by decide +kernel : decode cX4_behind 8 = .ok (.iload_n 3, 1)) rfl ?_
      exact g_callXS hF hQ lkX4_51 (x_X4_checkSlot X hX _ (by omega) (fun q => h ⟨s1, s5, q⟩) _) (by decide +kernel : decode cX4_behind 9 = .ok (.invokestatic 51, 3)) (by decide) rfl rfl (Nat.le_of_ble_eq_true rfl) 
    · exact g_callXS hF hQ lkX4_51 (x_X4_checkSlot X hX _ (by omega) s5 _) (by decide +kernel : decode cX4_behind 5 = .ok (.invokestatic 51, 3)) (by decide) rfl rfl (Nat.le_of_ble_eq_true rfl)
  · exact g_callXS hF hQ lkX4_51 (x_X4_checkSlot X hX _ (by omega) s1 _) (by decide +kernel : decode cX4_behind 1 = .ok (.invokestatic 51, 3)) (by decide) rfl rfl (Nat.le_of_ble_eq_true rfl)
set_option maxHeartbeats 4000000 in
set_option maxRecDepth 100000 in
theorem xb_X4_power (X : jX) (hX : jxok X) (s : Nat) (hs : s < 8) (e : Int) (je : jr e) (u : Nat) (hu : u < 8) (m : jM) (hC : CI m) (h : ¬ ((0 ≤ e ∧ e ≤ 1000))) : ConX X yX4_power cX4_power 4 (some .int) 12 [vR 2 38, vI s, vI e, vI u] m "java/lang/IllegalArgumentException" := by
  refine ConX.of hX (by decide) (Nat.le_of_ble_eq_true rfl) (fun F hF hQ => ?_)
  refine g_iload_n hF (by decide +kernel : decode cX4_power 0 = .ok (.iload_n 1, 1)) rfl ?_
  refine g_callS hF lkX4_51 (c_X4_checkSlot X hX _ (by omega) (by omega) _) (by decide +kernel : decode cX4_power 1 = .ok (.invokestatic 51, 3)) (by decide) rfl rfl (Nat.le_of_ble_eq_true rfl) (fun v1 m1 h1 => ?_)
  obtain ⟨rfl, e1⟩ := h1
  obtain rfl := e1.symm
  refine g_iload_n hF (by decide +kernel : decode cX4_power 4 = .ok (.iload_n 3, 1)) rfl ?_
  refine g_callS hF lkX4_51 (c_X4_checkSlot X hX _ (by omega) (by omega) _) (by decide +kernel : decode cX4_power 5 = .ok (.invokestatic 51, 3)) (by decide) rfl rfl (Nat.le_of_ble_eq_true rfl) (fun v5 m5 h5 => ?_)
  obtain ⟨rfl, e5⟩ := h5
  obtain rfl := e5.symm
  refine g_iload_n hF (by decide +kernel : decode cX4_power 8 = .ok (.iload_n 2, 1)) rfl ?_
  refine g_iconst hF (by decide +kernel : decode cX4_power 9 = .ok (.iconst 0, 1)) ?_
  refine g_sipush hF (by decide +kernel : decode cX4_power 10 = .ok (.sipush 1000, 3)) (by decide) ?_
  exact g_callXS hF hQ lkX4_70 (x_X4_checkRange X hX _ _ _ (by omega) (by omega) (by omega) h _) (by decide +kernel : decode cX4_power 13 = .ok (.invokestatic 70, 3)) (by decide) rfl rfl (Nat.le_of_ble_eq_true rfl) 
set_option maxHeartbeats 4000000 in
set_option maxRecDepth 100000 in
theorem xb_X4_merge (X : jX) (hX : jxok X) (s : Nat) (hs : s < 8) (k : Int) (jk : jr k) (v : Int) (jv : jr v) (h0 : Int) (jh0 : jr h0) (m : jM) (hC : CI m) (h : ¬ (num k ∧ (0 ≤ v ∧ v ≤ 255) ∧ wayM h0)) : ConX X yX4_merge cX4_merge 6 (some .int) 12 [vR 2 38, vI s, vI k, vI v, vI h0] m "java/lang/IllegalArgumentException" := by
  refine ConX.of hX (by decide) (Nat.le_of_ble_eq_true rfl) (fun F hF hQ => ?_)
  refine g_iload_n hF (by decide +kernel : decode cX4_merge 0 = .ok (.iload_n 1, 1)) rfl ?_
  refine g_callS hF lkX4_51 (c_X4_checkSlot X hX _ (by omega) (by omega) _) (by decide +kernel : decode cX4_merge 1 = .ok (.invokestatic 51, 3)) (by decide) rfl rfl (Nat.le_of_ble_eq_true rfl) (fun v1 m1 h1 => ?_)
  obtain ⟨rfl, e1⟩ := h1
  obtain rfl := e1.symm
  refine g_iload_n hF (by decide +kernel : decode cX4_merge 4 = .ok (.iload_n 2, 1)) rfl ?_
  rcases Classical.em (-1 ≤ k ∧ k ≤ 255) with s5 | s5
  · skip
    refine g_callS hF lkX4_55 (c_X4_checkNumber X hX _ (by omega) (by unfold num; omega) _) (by decide +kernel : decode cX4_merge 5 = .ok (.invokestatic 55, 3)) (by decide) rfl rfl (Nat.le_of_ble_eq_true rfl) (fun v5 m5 h5 => ?_)
    obtain ⟨rfl, e5⟩ := h5
    obtain rfl := e5.symm
    refine g_iload_n hF (by decide +kernel : decode cX4_merge 8 = .ok (.iload_n 3, 1)) rfl ?_
    refine g_iconst hF (by decide +kernel : decode cX4_merge 9 = .ok (.iconst 0, 1)) ?_
    refine g_sipush hF (by decide +kernel : decode cX4_merge 10 = .ok (.sipush 255, 3)) (by decide) ?_
    rcases Classical.em (0 ≤ v ∧ v ≤ 255) with s13 | s13
    · skip
      refine g_callS hF lkX4_70 (c_X4_checkRange X hX _ _ _ (by omega) (by omega) (by omega) (by omega) _) (by decide +kernel : decode cX4_merge 13 = .ok (.invokestatic 70, 3)) (by decide) rfl rfl (Nat.le_of_ble_eq_true rfl) (fun v13 m13 h13 => ?_)
      obtain ⟨rfl, e13⟩ := h13
      obtain rfl := e13.symm
      refine g_iload hF (by decide +kernel : decode cX4_merge 16 = .ok (.iload 4, 2)) rfl ?_
      refine g_bipush hF (by decide +kernel : decode cX4_merge 18 = .ok (.bipush 43, 2)) (by decide) ?_
      refine g_icmp_eq hF (tgt := 37) (by decide +kernel : decode cX4_merge 20 = .ok (.if_icmp .eq 17, 3)) (by decide) (by omega) (by omega) (fun c20 => ?_) (fun c20 => ?_)
      · skip
        exact absurd ⟨s5, s13, by show wayM h0; omega⟩ h
      · skip
        refine g_iload hF (by decide +kernel : decode cX4_merge 23 = .ok (.iload 4, 2)) rfl ?_
        refine g_bipush hF (by decide +kernel : decode cX4_merge 25 = .ok (.bipush 62, 2)) (by decide) ?_
        refine g_icmp_eq hF (tgt := 37) (by decide +kernel : decode cX4_merge 27 = .ok (.if_icmp .eq 10, 3)) (by decide) (by omega) (by omega) (fun c27 => ?_) (fun c27 => ?_)
        · skip
          exact absurd ⟨s5, s13, by show wayM h0; omega⟩ h
        · skip
          refine g_iload hF (by decide +kernel : decode cX4_merge 30 = .ok (.iload 4, 2)) rfl ?_
          refine g_bipush hF (by decide +kernel : decode cX4_merge 32 = .ok (.bipush 120, 2)) (by decide) ?_
          refine g_icmp_ne hF (tgt := 41) (by decide +kernel : decode cX4_merge 34 = .ok (.if_icmp .ne 7, 3)) (by decide) (by omega) (by omega) (fun c34 => ?_) (fun c34 => ?_)
          · skip
            refine g_iconst hF (by decide +kernel : decode cX4_merge 41 = .ok (.iconst 0, 1)) ?_
            exact g_callXS hF hQ lkX4_74 (x_X4_checkWay X hX _ (by omega) rfl _) (by decide +kernel : decode cX4_merge 42 = .ok (.invokestatic 74, 3)) (by decide) rfl rfl (Nat.le_of_ble_eq_true rfl) 
          · skip
            exact absurd ⟨s5, s13, by show wayM h0; omega⟩ h
    · exact g_callXS hF hQ lkX4_70 (x_X4_checkRange X hX _ _ _ (by omega) (by omega) (by omega) s13 _) (by decide +kernel : decode cX4_merge 13 = .ok (.invokestatic 70, 3)) (by decide) rfl rfl (Nat.le_of_ble_eq_true rfl)
  · exact g_callXS hF hQ lkX4_55 (x_X4_checkNumber X hX _ (by omega) s5 _) (by decide +kernel : decode cX4_merge 5 = .ok (.invokestatic 55, 3)) (by decide) rfl rfl (Nat.le_of_ble_eq_true rfl)
set_option maxHeartbeats 4000000 in
set_option maxRecDepth 100000 in
theorem xb_X4_compute (X : jX) (hX : jxok X) (s : Nat) (hs : s < 8) (k : Int) (jk : jr k) (h0 : Int) (jh0 : jr h0) (m : jM) (hC : CI m) (h : ¬ (num k ∧ wayC h0)) : ConX X yX4_compute cX4_compute 5 (some .int) 12 [vR 2 38, vI s, vI k, vI h0] m "java/lang/IllegalArgumentException" := by
  refine ConX.of hX (by decide) (Nat.le_of_ble_eq_true rfl) (fun F hF hQ => ?_)
  refine g_iload_n hF (by decide +kernel : decode cX4_compute 0 = .ok (.iload_n 1, 1)) rfl ?_
  refine g_callS hF lkX4_51 (c_X4_checkSlot X hX _ (by omega) (by omega) _) (by decide +kernel : decode cX4_compute 1 = .ok (.invokestatic 51, 3)) (by decide) rfl rfl (Nat.le_of_ble_eq_true rfl) (fun v1 m1 h1 => ?_)
  obtain ⟨rfl, e1⟩ := h1
  obtain rfl := e1.symm
  refine g_iload_n hF (by decide +kernel : decode cX4_compute 4 = .ok (.iload_n 2, 1)) rfl ?_
  rcases Classical.em (-1 ≤ k ∧ k ≤ 255) with s5 | s5
  · skip
    refine g_callS hF lkX4_55 (c_X4_checkNumber X hX _ (by omega) (by unfold num; omega) _) (by decide +kernel : decode cX4_compute 5 = .ok (.invokestatic 55, 3)) (by decide) rfl rfl (Nat.le_of_ble_eq_true rfl) (fun v5 m5 h5 => ?_)
    obtain ⟨rfl, e5⟩ := h5
    obtain rfl := e5.symm
    refine g_iload_n hF (by decide +kernel : decode cX4_compute 8 = .ok (.iload_n 3, 1)) rfl ?_
    refine g_bipush hF (by decide +kernel : decode cX4_compute 9 = .ok (.bipush 105, 2)) (by decide) ?_
    refine g_icmp_eq hF (tgt := 32) (by decide +kernel : decode cX4_compute 11 = .ok (.if_icmp .eq 21, 3)) (by decide) (by omega) (by omega) (fun c11 => ?_) (fun c11 => ?_)
    · skip
      exact absurd ⟨s5, by show wayC h0; omega⟩ h
    · skip
      refine g_iload_n hF (by decide +kernel : decode cX4_compute 14 = .ok (.iload_n 3, 1)) rfl ?_
      refine g_bipush hF (by decide +kernel : decode cX4_compute 15 = .ok (.bipush 100, 2)) (by decide) ?_
      refine g_icmp_eq hF (tgt := 32) (by decide +kernel : decode cX4_compute 17 = .ok (.if_icmp .eq 15, 3)) (by decide) (by omega) (by omega) (fun c17 => ?_) (fun c17 => ?_)
      · skip
        exact absurd ⟨s5, by show wayC h0; omega⟩ h
      · skip
        refine g_iload_n hF (by decide +kernel : decode cX4_compute 20 = .ok (.iload_n 3, 1)) rfl ?_
        refine g_bipush hF (by decide +kernel : decode cX4_compute 21 = .ok (.bipush 102, 2)) (by decide) ?_
        refine g_icmp_eq hF (tgt := 32) (by decide +kernel : decode cX4_compute 23 = .ok (.if_icmp .eq 9, 3)) (by decide) (by omega) (by omega) (fun c23 => ?_) (fun c23 => ?_)
        · skip
          exact absurd ⟨s5, by show wayC h0; omega⟩ h
        · skip
          refine g_iload_n hF (by decide +kernel : decode cX4_compute 26 = .ok (.iload_n 3, 1)) rfl ?_
          refine g_bipush hF (by decide +kernel : decode cX4_compute 27 = .ok (.bipush 112, 2)) (by decide) ?_
          refine g_icmp_ne hF (tgt := 36) (by decide +kernel : decode cX4_compute 29 = .ok (.if_icmp .ne 7, 3)) (by decide) (by omega) (by omega) (fun c29 => ?_) (fun c29 => ?_)
          · skip
            refine g_iconst hF (by decide +kernel : decode cX4_compute 36 = .ok (.iconst 0, 1)) ?_
            exact g_callXS hF hQ lkX4_74 (x_X4_checkWay X hX _ (by omega) rfl _) (by decide +kernel : decode cX4_compute 37 = .ok (.invokestatic 74, 3)) (by decide) rfl rfl (Nat.le_of_ble_eq_true rfl) 
          · skip
            exact absurd ⟨s5, by show wayC h0; omega⟩ h
  · exact g_callXS hF hQ lkX4_55 (x_X4_checkNumber X hX _ (by omega) s5 _) (by decide +kernel : decode cX4_compute 5 = .ok (.invokestatic 55, 3)) (by decide) rfl rfl (Nat.le_of_ble_eq_true rfl)
set_option maxHeartbeats 4000000 in
set_option maxRecDepth 100000 in
theorem xb_X4_keyAt (X : jX) (hX : jxok X) (s : Nat) (hs : s < 8) (p : Int) (jp : jr p) (m : jM) (hC : CI m) (h : ¬ (0 ≤ p ∧ p < cnt (m s))) : ConX X yX4_keyAt cX4_keyAt 3 (some .int) 12 [vR 2 38, vI s, vI p] m "java/util/NoSuchElementException" := by
  refine ConX.of hX (by decide) (Nat.le_of_ble_eq_true rfl) (fun F hF hQ => ?_)
  have hr := (hC.1 s (by omega)).1
  have hct := (hC.1 s (by omega)).2
  have hcb := cnt_b (m s)
  refine g_iload_n hF (by decide +kernel : decode cX4_keyAt 0 = .ok (.iload_n 1, 1)) rfl ?_
  refine g_callS hF lkX4_51 (c_X4_checkSlot X hX _ (by omega) (by omega) _) (by decide +kernel : decode cX4_keyAt 1 = .ok (.invokestatic 51, 3)) (by decide) rfl rfl (Nat.le_of_ble_eq_true rfl) (fun v1 m1 h1 => ?_)
  obtain ⟨rfl, e1⟩ := h1
  obtain rfl := e1.symm
  refine g_iload_n hF (by decide +kernel : decode cX4_keyAt 4 = .ok (.iload_n 2, 1)) rfl ?_
  refine g_if_lt hF (tgt := 21) (by decide +kernel : decode cX4_keyAt 5 = .ok (.ifCond .lt 16, 3)) (by decide) (by omega) (fun c5 => ?_) (fun c5 => ?_)
  · skip
    exact g_throwN hF rfl hQ (text := "no key has this place") (by decide) (by decide +kernel : decode cX4_keyAt 21 = .ok (.new 103, 3)) (by decide +kernel : decode cX4_keyAt 24 = .ok (.dup, 1)) (by decide +kernel : decode cX4_keyAt 25 = .ok (.ldc 105, 2)) (by decide +kernel : decode cX4_keyAt 27 = .ok (.invokespecial 107, 3)) (by decide +kernel : decode cX4_keyAt 30 = .ok (.athrow, 1)) (by decide) (Nat.le_of_ble_eq_true rfl)
  · skip
    refine g_iload_n hF (by decide +kernel : decode cX4_keyAt 8 = .ok (.iload_n 2, 1)) rfl ?_
    refine g_aload_n hF (by decide +kernel : decode cX4_keyAt 9 = .ok (.aload_n 0, 1)) rfl ?_
    refine g_getC hF lkX4_11 (by decide +kernel : decode cX4_keyAt 10 = .ok (.getfield 11, 3)) jok38 rfl rfl ?_
    refine g_iload_n hF (by decide +kernel : decode cX4_keyAt 13 = .ok (.iload_n 1, 1)) rfl ?_
    refine g_aaload_39 hF (by decide +kernel : decode cX4_keyAt 14 = .ok (.aaload, 1)) (rfl) hs ?_
    refine g_tcnt hF lkX4_85 (by decide +kernel : decode cX4_keyAt 15 = .ok (.getfield 85, 3)) (show s < 19 by omega) ?_
    refine g_icmp_lt hF (tgt := 31) (by decide +kernel : decode cX4_keyAt 18 = .ok (.if_icmp .lt 13, 3)) (by decide) (by omega) (by omega) (fun c18 => ?_) (fun c18 => ?_)
    · skip
      exact absurd c18 (by omega)
    · skip
      exact g_throwN hF rfl hQ (text := "no key has this place") (by decide) (by decide +kernel : decode cX4_keyAt 21 = .ok (.new 103, 3)) (by decide +kernel : decode cX4_keyAt 24 = .ok (.dup, 1)) (by decide +kernel : decode cX4_keyAt 25 = .ok (.ldc 105, 2)) (by decide +kernel : decode cX4_keyAt 27 = .ok (.invokespecial 107, 3)) (by decide +kernel : decode cX4_keyAt 30 = .ok (.athrow, 1)) (by decide) (Nat.le_of_ble_eq_true rfl)
set_option maxHeartbeats 4000000 in
set_option maxRecDepth 100000 in
theorem xb_X4_turn (X : jX) (hX : jxok X) (s : Nat) (hs : s < 8) (u : Nat) (hu : u < 8) (m : jM) (hC : CI m) (h : ¬ once (m s)) : ConXP X yX4_turn cX4_turn 3 (some .int) 12 [vR 2 38, vI s, vI u] m (fun m' => CQ m m') "java/lang/UnsupportedOperationException" := by
  refine ConX.of hX (by decide) (Nat.le_of_ble_eq_true rfl) (fun F hF hQ => ?_)
  have hts := hC.1 s (by omega)
  refine g_iload_n hF (by decide +kernel : decode cX4_turn 0 = .ok (.iload_n 1, 1)) rfl ?_
  refine g_callS hF lkX4_51 (c_X4_checkSlot X hX _ (by omega) (by omega) _) (by decide +kernel : decode cX4_turn 1 = .ok (.invokestatic 51, 3)) (by decide) rfl rfl (Nat.le_of_ble_eq_true rfl) (fun v1 m1 h1 => ?_)
  obtain ⟨rfl, e1⟩ := h1
  obtain rfl := e1.symm
  refine g_iload_n hF (by decide +kernel : decode cX4_turn 4 = .ok (.iload_n 2, 1)) rfl ?_
  refine g_callS hF lkX4_51 (c_X4_checkSlot X hX _ (by omega) (by omega) _) (by decide +kernel : decode cX4_turn 5 = .ok (.invokestatic 51, 3)) (by decide) rfl rfl (Nat.le_of_ble_eq_true rfl) (fun v5 m5 h5 => ?_)
  obtain ⟨rfl, e5⟩ := h5
  obtain rfl := e5.symm
  refine g_aload_n hF (by decide +kernel : decode cX4_turn 8 = .ok (.aload_n 0, 1)) rfl ?_
  refine g_aload_n hF (by decide +kernel : decode cX4_turn 9 = .ok (.aload_n 0, 1)) rfl ?_
  refine g_getC hF lkX4_11 (by decide +kernel : decode cX4_turn 10 = .ok (.getfield 11, 3)) jok38 rfl rfl ?_
  refine g_iload_n hF (by decide +kernel : decode cX4_turn 13 = .ok (.iload_n 1, 1)) rfl ?_
  refine g_aaload_39 hF (by decide +kernel : decode cX4_turn 14 = .ok (.aaload, 1)) (rfl) hs ?_
  exact g_callXV hF hQ lkX4_162 (x_X4_checkTurns X hX _ (show s < 19 by omega) _ hts (fun q => h ((kinds_once hts.1).mp q))) (by decide +kernel : decode cX4_turn 15 = .ok (.invokevirtual 162, 3)) (by decide) rfl rfl rfl rfl jok38 (Nat.le_of_ble_eq_true rfl) (fun m' ⟨G, e⟩ => by rw [e]; exact CQ_row hC (by unfold garb; omega) (by omega) G)
set_option maxHeartbeats 4000000 in
set_option maxRecDepth 100000 in
theorem xb_X4_order (X : jX) (hX : jxok X) (s : Nat) (hs : s < 8) (m : jM) (hC : CI m) (h : ¬ (inside (m s) ∧ once (m s))) : ConXP X yX4_order cX4_order 2 (some .long) 12 [vR 2 38, vI s] m (fun m' => CQ m m') "java/lang/UnsupportedOperationException" := by
  refine ConX.of hX (by decide) (Nat.le_of_ble_eq_true rfl) (fun F hF hQ => ?_)
  have hts := hC.1 s (by omega)
  have hr := hts.1
  have hbi := bI_c (inside (m s))
  have hq0 := CQ_rfl hC
  refine g_iload_n hF (by decide +kernel : decode cX4_order 0 = .ok (.iload_n 1, 1)) rfl ?_
  refine g_callS hF lkX4_51 (c_X4_checkSlot X hX _ (by omega) (by omega) _) (by decide +kernel : decode cX4_order 1 = .ok (.invokestatic 51, 3)) (by decide) rfl rfl (Nat.le_of_ble_eq_true rfl) (fun v1 m1 h1 => ?_)
  obtain ⟨rfl, e1⟩ := h1
  obtain rfl := e1.symm
  refine g_aload_n hF (by decide +kernel : decode cX4_order 4 = .ok (.aload_n 0, 1)) rfl ?_
  refine g_getC hF lkX4_11 (by decide +kernel : decode cX4_order 5 = .ok (.getfield 11, 3)) jok38 rfl rfl ?_
  refine g_iload_n hF (by decide +kernel : decode cX4_order 8 = .ok (.iload_n 1, 1)) rfl ?_
  refine g_aaload_39 hF (by decide +kernel : decode cX4_order 9 = .ok (.aaload, 1)) (rfl) hs ?_
  refine g_callV hF lkX4_172 (c_X2_staysInside X hX _ (show s < 19 by omega) _ (by assumption)) (by decide +kernel : decode cX4_order 10 = .ok (.invokevirtual 172, 3)) (by decide) rfl rfl rfl rfl (show s < 19 by omega) (Nat.le_of_ble_eq_true rfl) (fun v10 m10 h10 => ?_)
  obtain ⟨rfl, e10⟩ := h10
  obtain rfl := e10.symm
  refine g_if_ne hF (tgt := 26) (by decide +kernel : decode cX4_order 13 = .ok (.ifCond .ne 13, 3)) (by decide) (by omega) (fun c13 => ?_) (fun c13 => ?_)
  · skip
    refine g_aload_n hF (by decide +kernel : decode cX4_order 26 = .ok (.aload_n 0, 1)) rfl ?_
    refine g_aload_n hF (by decide +kernel : decode cX4_order 27 = .ok (.aload_n 0, 1)) rfl ?_
    refine g_getC hF lkX4_11 (by decide +kernel : decode cX4_order 28 = .ok (.getfield 11, 3)) jok38 rfl rfl ?_
    refine g_iload_n hF (by decide +kernel : decode cX4_order 31 = .ok (.iload_n 1, 1)) rfl ?_
    refine g_aaload_39 hF (by decide +kernel : decode cX4_order 32 = .ok (.aaload, 1)) (rfl) hs ?_
    exact g_callXV hF hQ lkX4_162 (x_X4_checkTurns X hX _ (show s < 19 by omega) _ hts (fun q => h ⟨Classical.byContradiction (fun z => c13 (bI_f z)), (kinds_once hts.1).mp q⟩)) (by decide +kernel : decode cX4_order 33 = .ok (.invokevirtual 162, 3)) (by decide) rfl rfl rfl rfl jok38 (Nat.le_of_ble_eq_true rfl) (fun m' ⟨G, e⟩ => by rw [e]; exact CQ_row hC (by unfold garb; omega) (by omega) G)
  · skip
    exact g_throw hF hQ th_uo (text := "the map is not into itself") (by decide) (by decide +kernel : decode cX4_order 16 = .ok (.new 188, 3)) (by decide +kernel : decode cX4_order 19 = .ok (.dup, 1)) (by decide +kernel : decode cX4_order 20 = .ok (.ldc 190, 2)) (by decide +kernel : decode cX4_order 22 = .ok (.invokespecial 192, 3)) (by decide +kernel : decode cX4_order 25 = .ok (.athrow, 1)) (by decide) (by decide)
set_option maxHeartbeats 4000000 in
set_option maxRecDepth 100000 in
theorem xa_X4_steps (X : jX) (hX : jxok X) (s : Int) (js : jr s) (k : Int) (jk : jr k) (m : jM) (h : ¬ (0 ≤ s ∧ s < 8)) : ConX X yX4_steps cX4_steps 3 (some .int) 12 [vR 2 38, vI s, vI k] m "java/lang/IndexOutOfBoundsException" := by
  refine ConX.of hX (by decide) (Nat.le_of_ble_eq_true rfl) (fun F hF hQ => ?_)
  refine g_aload_n hF (by decide +kernel : decode cX4_steps 0 = .ok (.aload_n 0, 1)) rfl ?_
  refine g_iload_n hF (by decide +kernel : decode cX4_steps 1 = .ok (.iload_n 1, 1)) rfl ?_
  refine g_iload_n hF (by decide +kernel : decode cX4_steps 2 = .ok (.iload_n 2, 1)) rfl ?_
  exact g_callXV hF hQ lkX4_179 (xa_X4_walkFrom X hX _ js _ jk _ h) (by decide +kernel : decode cX4_steps 3 = .ok (.invokevirtual 179, 3)) (by decide) rfl rfl rfl rfl jok38 (Nat.le_of_ble_eq_true rfl) 
set_option maxHeartbeats 4000000 in
set_option maxRecDepth 100000 in
theorem xb_X4_steps (X : jX) (hX : jxok X) (s : Nat) (hs : s < 8) (k : Int) (jk : jr k) (m : jM) (hC : CI m) (h : ¬ num k) : ConX X yX4_steps cX4_steps 3 (some .int) 12 [vR 2 38, vI s, vI k] m "java/lang/IllegalArgumentException" := by
  refine ConX.of hX (by decide) (Nat.le_of_ble_eq_true rfl) (fun F hF hQ => ?_)
  refine g_aload_n hF (by decide +kernel : decode cX4_steps 0 = .ok (.aload_n 0, 1)) rfl ?_
  refine g_iload_n hF (by decide +kernel : decode cX4_steps 1 = .ok (.iload_n 1, 1)) rfl ?_
  refine g_iload_n hF (by decide +kernel : decode cX4_steps 2 = .ok (.iload_n 2, 1)) rfl ?_
  exact g_callXV hF hQ lkX4_179 (xb_X4_walkFrom X hX _ hs _ jk _ hC h) (by decide +kernel : decode cX4_steps 3 = .ok (.invokevirtual 179, 3)) (by decide) rfl rfl rfl rfl jok38 (Nat.le_of_ble_eq_true rfl) 
set_option maxHeartbeats 4000000 in
set_option maxRecDepth 100000 in
theorem xc_X4_steps (X : jX) (hX : jxok X) (s : Nat) (hs : s < 8) (k : Int) (hk : num k) (m : jM) (hC : CI m) (h : tat (m s) k = -2) : ConX X yX4_steps cX4_steps 3 (some .int) 12 [vR 2 38, vI s, vI k] m "java/util/NoSuchElementException" := by
  refine ConX.of hX (by decide) (Nat.le_of_ble_eq_true rfl) (fun F hF hQ => ?_)
  have hk2 : -1 ≤ k ∧ k ≤ 255 := hk
  refine g_aload_n hF (by decide +kernel : decode cX4_steps 0 = .ok (.aload_n 0, 1)) rfl ?_
  refine g_iload_n hF (by decide +kernel : decode cX4_steps 1 = .ok (.iload_n 1, 1)) rfl ?_
  refine g_iload_n hF (by decide +kernel : decode cX4_steps 2 = .ok (.iload_n 2, 1)) rfl ?_
  exact g_callXV hF hQ lkX4_179 (xc_X4_walkFrom X hX _ hs _ (by omega) _ hC hk h) (by decide +kernel : decode cX4_steps 3 = .ok (.invokevirtual 179, 3)) (by decide) rfl rfl rfl rfl jok38 (Nat.le_of_ble_eq_true rfl) 
set_option maxHeartbeats 4000000 in
set_option maxRecDepth 100000 in
theorem xa_X4_ring (X : jX) (hX : jxok X) (s : Int) (js : jr s) (k : Int) (jk : jr k) (m : jM) (h : ¬ (0 ≤ s ∧ s < 8)) : ConX X yX4_ring cX4_ring 3 (some .int) 12 [vR 2 38, vI s, vI k] m "java/lang/IndexOutOfBoundsException" := by
  refine ConX.of hX (by decide) (Nat.le_of_ble_eq_true rfl) (fun F hF hQ => ?_)
  refine g_aload_n hF (by decide +kernel : decode cX4_ring 0 = .ok (.aload_n 0, 1)) rfl ?_
  refine g_iload_n hF (by decide +kernel : decode cX4_ring 1 = .ok (.iload_n 1, 1)) rfl ?_
  refine g_iload_n hF (by decide +kernel : decode cX4_ring 2 = .ok (.iload_n 2, 1)) rfl ?_
  exact g_callXV hF hQ lkX4_179 (xa_X4_walkFrom X hX _ js _ jk _ h) (by decide +kernel : decode cX4_ring 3 = .ok (.invokevirtual 179, 3)) (by decide) rfl rfl rfl rfl jok38 (Nat.le_of_ble_eq_true rfl) 
set_option maxHeartbeats 4000000 in
set_option maxRecDepth 100000 in
theorem xb_X4_ring (X : jX) (hX : jxok X) (s : Nat) (hs : s < 8) (k : Int) (jk : jr k) (m : jM) (hC : CI m) (h : ¬ num k) : ConX X yX4_ring cX4_ring 3 (some .int) 12 [vR 2 38, vI s, vI k] m "java/lang/IllegalArgumentException" := by
  refine ConX.of hX (by decide) (Nat.le_of_ble_eq_true rfl) (fun F hF hQ => ?_)
  refine g_aload_n hF (by decide +kernel : decode cX4_ring 0 = .ok (.aload_n 0, 1)) rfl ?_
  refine g_iload_n hF (by decide +kernel : decode cX4_ring 1 = .ok (.iload_n 1, 1)) rfl ?_
  refine g_iload_n hF (by decide +kernel : decode cX4_ring 2 = .ok (.iload_n 2, 1)) rfl ?_
  exact g_callXV hF hQ lkX4_179 (xb_X4_walkFrom X hX _ hs _ jk _ hC h) (by decide +kernel : decode cX4_ring 3 = .ok (.invokevirtual 179, 3)) (by decide) rfl rfl rfl rfl jok38 (Nat.le_of_ble_eq_true rfl) 
set_option maxHeartbeats 4000000 in
set_option maxRecDepth 100000 in
theorem xc_X4_ring (X : jX) (hX : jxok X) (s : Nat) (hs : s < 8) (k : Int) (hk : num k) (m : jM) (hC : CI m) (h : tat (m s) k = -2) : ConX X yX4_ring cX4_ring 3 (some .int) 12 [vR 2 38, vI s, vI k] m "java/util/NoSuchElementException" := by
  refine ConX.of hX (by decide) (Nat.le_of_ble_eq_true rfl) (fun F hF hQ => ?_)
  have hk2 : -1 ≤ k ∧ k ≤ 255 := hk
  refine g_aload_n hF (by decide +kernel : decode cX4_ring 0 = .ok (.aload_n 0, 1)) rfl ?_
  refine g_iload_n hF (by decide +kernel : decode cX4_ring 1 = .ok (.iload_n 1, 1)) rfl ?_
  refine g_iload_n hF (by decide +kernel : decode cX4_ring 2 = .ok (.iload_n 2, 1)) rfl ?_
  exact g_callXV hF hQ lkX4_179 (xc_X4_walkFrom X hX _ hs _ (by omega) _ hC hk h) (by decide +kernel : decode cX4_ring 3 = .ok (.invokevirtual 179, 3)) (by decide) rfl rfl rfl rfl jok38 (Nat.le_of_ble_eq_true rfl) 
set_option maxHeartbeats 4000000 in
set_option maxRecDepth 100000 in
theorem xa_X4_say (X : jX) (hX : jxok X) (k : Int) (jk : jr k) (v : Int) (jv : jr v) (m : jM) (h : ¬ (num k ∧ num v)) : ConX X yX4_say cX4_say 3 (some .int) 12 [vR 2 38, vI k, vI v] m "java/lang/IllegalArgumentException" := by
  refine ConX.of hX (by decide) (Nat.le_of_ble_eq_true rfl) (fun F hF hQ => ?_)
  refine g_iload_n hF (by decide +kernel : decode cX4_say 0 = .ok (.iload_n 1, 1)) rfl ?_
  rcases Classical.em (-1 ≤ k ∧ k ≤ 255) with s1 | s1
  · skip
    refine g_callS hF lkX4_55 (c_X4_checkNumber X hX _ (by omega) (by unfold num; omega) _) (by decide +kernel : decode cX4_say 1 = .ok (.invokestatic 55, 3)) (by decide) rfl rfl (Nat.le_of_ble_eq_true rfl) (fun v1 m1 h1 => ?_)
    obtain ⟨rfl, e1⟩ := h1
    obtain rfl := e1.symm
    refine g_iload_n hF (by decide +kernel : decode cX4_say 4 = .ok (.iload_n 2, 1)) rfl ?_
    exact g_callXS hF hQ lkX4_55 (x_X4_checkNumber X hX _ (by omega) (fun q => h ⟨s1, q⟩) _) (by decide +kernel : decode cX4_say 5 = .ok (.invokestatic 55, 3)) (by decide) rfl rfl (Nat.le_of_ble_eq_true rfl) 
  · exact g_callXS hF hQ lkX4_55 (x_X4_checkNumber X hX _ (by omega) s1 _) (by decide +kernel : decode cX4_say 1 = .ok (.invokestatic 55, 3)) (by decide) rfl rfl (Nat.le_of_ble_eq_true rfl)
set_option maxHeartbeats 4000000 in
set_option maxRecDepth 100000 in
theorem xa_X4_unsay (X : jX) (hX : jxok X) (k : Int) (jk : jr k) (m : jM) (h : ¬ (num k)) : ConX X yX4_unsay cX4_unsay 2 (some .int) 12 [vR 2 38, vI k] m "java/lang/IllegalArgumentException" := by
  refine ConX.of hX (by decide) (Nat.le_of_ble_eq_true rfl) (fun F hF hQ => ?_)
  refine g_iload_n hF (by decide +kernel : decode cX4_unsay 0 = .ok (.iload_n 1, 1)) rfl ?_
  exact g_callXS hF hQ lkX4_55 (x_X4_checkNumber X hX _ (by omega) h _) (by decide +kernel : decode cX4_unsay 1 = .ok (.invokestatic 55, 3)) (by decide) rfl rfl (Nat.le_of_ble_eq_true rfl) 
set_option maxHeartbeats 4000000 in
set_option maxRecDepth 100000 in
theorem xa_X4_stir (X : jX) (hX : jxok X) (s : Int) (js : jr s) (m : jM) (h : ¬ ((1 ≤ s ∧ s ≤ 2147483646))) : ConX X yX4_stir cX4_stir 2 (some .int) 12 [vR 2 38, vI s] m "java/lang/IllegalArgumentException" := by
  refine ConX.of hX (by decide) (Nat.le_of_ble_eq_true rfl) (fun F hF hQ => ?_)
  refine g_iload_n hF (by decide +kernel : decode cX4_stir 0 = .ok (.iload_n 1, 1)) rfl ?_
  refine g_iconst hF (by decide +kernel : decode cX4_stir 1 = .ok (.iconst 1, 1)) ?_
  refine g_ldc hF kiX4_204 (by decide +kernel : decode cX4_stir 2 = .ok (.ldc 204, 2)) ?_
  exact g_callXS hF hQ lkX4_70 (x_X4_checkRange X hX _ _ _ (by omega) (by omega) (by omega) h _) (by decide +kernel : decode cX4_stir 4 = .ok (.invokestatic 70, 3)) (by decide) rfl rfl (Nat.le_of_ble_eq_true rfl) 
set_option maxHeartbeats 4000000 in
set_option maxRecDepth 100000 in
theorem xb_X4_say (X : jX) (hX : jxok X) (k v : Int) (hk : num k) (hv : num v) (w : Nat) (m : jM) (hw : rwok m w) (h : w = 60) : ConX X yX4_say cX4_say 3 (some .int) 12 [vR 2 38, vI k, vI v] m "java/lang/IllegalStateException" := by
  refine ConX.of hX (by decide) (Nat.le_of_ble_eq_true rfl) (fun F hF hQ => ?_)
  unfold num at hk hv
  refine g_iload_n hF (by decide +kernel : decode cX4_say 0 = .ok (.iload_n 1, 1)) rfl ?_
  refine g_callS hF lkX4_55 (c_X4_checkNumber X hX _ (by omega) (by unfold num; omega) _) (by decide +kernel : decode cX4_say 1 = .ok (.invokestatic 55, 3)) (by decide) rfl rfl (Nat.le_of_ble_eq_true rfl) (fun v1 m1 h1 => ?_)
  obtain ⟨rfl, e1⟩ := h1
  obtain rfl := e1.symm
  refine g_iload_n hF (by decide +kernel : decode cX4_say 4 = .ok (.iload_n 2, 1)) rfl ?_
  refine g_callS hF lkX4_55 (c_X4_checkNumber X hX _ (by omega) (by unfold num; omega) _) (by decide +kernel : decode cX4_say 5 = .ok (.invokestatic 55, 3)) (by decide) rfl rfl (Nat.le_of_ble_eq_true rfl) (fun v5 m5 h5 => ?_)
  obtain ⟨rfl, e5⟩ := h5
  obtain rfl := e5.symm
  refine g_aload_n hF (by decide +kernel : decode cX4_say 8 = .ok (.aload_n 0, 1)) rfl ?_
  exact g_callXV hF hQ lkX4_197 (x_X4_checkWordFits X hX _ _ hw h) (by decide +kernel : decode cX4_say 9 = .ok (.invokevirtual 197, 3)) (by decide) rfl rfl rfl rfl jok38 (Nat.le_of_ble_eq_true rfl) 
set_option maxHeartbeats 4000000 in
set_option maxRecDepth 100000 in
theorem xb_X4_unsay (X : jX) (hX : jxok X) (k : Int) (hk : num k) (w : Nat) (m : jM) (hw : rwok m w) (h : w = 60) : ConX X yX4_unsay cX4_unsay 2 (some .int) 12 [vR 2 38, vI k] m "java/lang/IllegalStateException" := by
  refine ConX.of hX (by decide) (Nat.le_of_ble_eq_true rfl) (fun F hF hQ => ?_)
  unfold num at hk
  refine g_iload_n hF (by decide +kernel : decode cX4_unsay 0 = .ok (.iload_n 1, 1)) rfl ?_
  refine g_callS hF lkX4_55 (c_X4_checkNumber X hX _ (by omega) (by unfold num; omega) _) (by decide +kernel : decode cX4_unsay 1 = .ok (.invokestatic 55, 3)) (by decide) rfl rfl (Nat.le_of_ble_eq_true rfl) (fun v1 m1 h1 => ?_)
  obtain ⟨rfl, e1⟩ := h1
  obtain rfl := e1.symm
  refine g_aload_n hF (by decide +kernel : decode cX4_unsay 4 = .ok (.aload_n 0, 1)) rfl ?_
  exact g_callXV hF hQ lkX4_197 (x_X4_checkWordFits X hX _ _ hw h) (by decide +kernel : decode cX4_unsay 5 = .ok (.invokevirtual 197, 3)) (by decide) rfl rfl rfl rfl jok38 (Nat.le_of_ble_eq_true rfl) 
set_option maxHeartbeats 4000000 in
set_option maxRecDepth 100000 in
theorem xa_X4_undo (X : jX) (hX : jxok X) (m : jM) (hC : CI m) (h : m 45 1 = 0) : ConX X yX4_undo cX4_undo 2 (some .int) 12 [vR 2 38] m "java/util/NoSuchElementException" := by
  refine ConX.of hX (by decide) (Nat.le_of_ble_eq_true rfl) (fun F hF hQ => ?_)
  refine g_aload_n hF (by decide +kernel : decode cX4_undo 0 = .ok (.aload_n 0, 1)) rfl ?_
  refine g_getC hF lkX4_25 (by decide +kernel : decode cX4_undo 1 = .ok (.getfield 25, 3)) jok38 rfl rfl ?_
  refine g_getC hF lkX4_218 (by decide +kernel : decode cX4_undo 4 = .ok (.getfield 218, 3)) jok45 rfl rfl ?_
  refine g_if_ne hF (tgt := 20) (by decide +kernel : decode cX4_undo 7 = .ok (.ifCond .ne 13, 3)) (by decide) (by omega) (fun c7 => ?_) (fun c7 => ?_)
  · skip
    exact absurd h c7
  · skip
    exact g_throwN hF rfl hQ (text := "no map is kept") (by decide) (by decide +kernel : decode cX4_undo 10 = .ok (.new 103, 3)) (by decide +kernel : decode cX4_undo 13 = .ok (.dup, 1)) (by decide +kernel : decode cX4_undo 14 = .ok (.ldc 219, 2)) (by decide +kernel : decode cX4_undo 16 = .ok (.invokespecial 107, 3)) (by decide +kernel : decode cX4_undo 19 = .ok (.athrow, 1)) (by decide) (Nat.le_of_ble_eq_true rfl)
set_option maxHeartbeats 4000000 in
set_option maxRecDepth 100000 in
theorem xb_X4_share (X : jX) (hX : jxok X) (s : Nat) (hs : s < 8) (m : jM) (hC : CI m) (h : cnt (m s) = 0) : ConX X yX4_share cX4_share 3 (some .float) 12 [vR 2 38, vI s] m "java/lang/ArithmeticException" := by
  refine ConX.of hX (by decide) (Nat.le_of_ble_eq_true rfl) (fun F hF hQ => ?_)
  have hr := (hC.1 s (by omega)).1
  have hct := (hC.1 s (by omega)).2
  refine g_iload_n hF (by decide +kernel : decode cX4_share 0 = .ok (.iload_n 1, 1)) rfl ?_
  refine g_callS hF lkX4_51 (c_X4_checkSlot X hX _ (by omega) (by omega) _) (by decide +kernel : decode cX4_share 1 = .ok (.invokestatic 51, 3)) (by decide) rfl rfl (Nat.le_of_ble_eq_true rfl) (fun v1 m1 h1 => ?_)
  obtain ⟨rfl, e1⟩ := h1
  obtain rfl := e1.symm
  refine g_aload_n hF (by decide +kernel : decode cX4_share 4 = .ok (.aload_n 0, 1)) rfl ?_
  refine g_getC hF lkX4_11 (by decide +kernel : decode cX4_share 5 = .ok (.getfield 11, 3)) jok38 rfl rfl ?_
  refine g_iload_n hF (by decide +kernel : decode cX4_share 8 = .ok (.iload_n 1, 1)) rfl ?_
  refine g_aaload_39 hF (by decide +kernel : decode cX4_share 9 = .ok (.aaload, 1)) (rfl) hs ?_
  refine g_tcnt hF lkX4_85 (by decide +kernel : decode cX4_share 10 = .ok (.getfield 85, 3)) (show s < 19 by omega) ?_
  rw [hct]
  refine g_istore_n hF (by decide +kernel : decode cX4_share 13 = .ok (.istore_n 2, 1)) (by decide) ?_
  refine g_iload_n hF (by decide +kernel : decode cX4_share 14 = .ok (.iload_n 2, 1)) rfl ?_
  refine g_if_ne hF (tgt := 28) (by decide +kernel : decode cX4_share 15 = .ok (.ifCond .ne 13, 3)) (by decide) (by omega) (fun c15 => ?_) (fun c15 => ?_)
  · skip
    exact absurd h c15
  · skip
    exact g_throw hF hQ th_ar (text := "the map has no keys") (by decide) (by decide +kernel : decode cX4_share 18 = .ok (.new 227, 3)) (by decide +kernel : decode cX4_share 21 = .ok (.dup, 1)) (by decide +kernel : decode cX4_share 22 = .ok (.ldc 229, 2)) (by decide +kernel : decode cX4_share 24 = .ok (.invokespecial 231, 3)) (by decide +kernel : decode cX4_share 27 = .ok (.athrow, 1)) (by decide) (by decide)

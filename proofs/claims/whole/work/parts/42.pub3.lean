set_option maxHeartbeats 4000000 in
set_option maxRecDepth 100000 in
theorem c_X4_copy (X : jX) (hX : jxok X) (s : Nat) (hs : s < 8) (u : Nat) (hu : u < 8) (m : jM) (hC : CI m) : Con X yX4_copy cX4_copy 3 (some .int) 12 [vR 2 38, vI s, vI u] m (fun o m' => o = some (vI (cnt (m s))) ∧ CW m u (m s) m') := by
  refine Con.of hX (by decide) (Nat.le_of_ble_eq_true rfl) (fun F hF hQ => ?_)
  have hcs := (hC.1 s (by omega)).2
  have hr := (hC.1 s (by omega)).1
  obtain ⟨nx, hn, h0⟩ := hC.2.2.1
  refine g_iload_n hF (by decide +kernel : decode cX4_copy 0 = .ok (.iload_n 1, 1)) rfl ?_
  refine g_callS hF lkX4_51 (c_X4_checkSlot X hX _ (by omega) (by omega) _) (by decide +kernel : decode cX4_copy 1 = .ok (.invokestatic 51, 3)) (by decide) rfl rfl (Nat.le_of_ble_eq_true rfl) (fun v1 m1 h1 => ?_)
  obtain ⟨rfl, e1⟩ := h1
  obtain rfl := e1.symm
  refine g_iload_n hF (by decide +kernel : decode cX4_copy 4 = .ok (.iload_n 2, 1)) rfl ?_
  refine g_callS hF lkX4_51 (c_X4_checkSlot X hX _ (by omega) (by omega) _) (by decide +kernel : decode cX4_copy 5 = .ok (.invokestatic 51, 3)) (by decide) rfl rfl (Nat.le_of_ble_eq_true rfl) (fun v5 m5 h5 => ?_)
  obtain ⟨rfl, e5⟩ := h5
  obtain rfl := e5.symm
  refine g_aload_n hF (by decide +kernel : decode cX4_copy 8 = .ok (.aload_n 0, 1)) rfl ?_
  refine g_getC hF lkX4_37 (by decide +kernel : decode cX4_copy 9 = .ok (.getfield 37, 3)) jok38 rfl rfl ?_
  refine g_aload_n hF (by decide +kernel : decode cX4_copy 12 = .ok (.aload_n 0, 1)) rfl ?_
  refine g_getC hF lkX4_11 (by decide +kernel : decode cX4_copy 13 = .ok (.getfield 11, 3)) jok38 rfl rfl ?_
  refine g_iload_n hF (by decide +kernel : decode cX4_copy 16 = .ok (.iload_n 1, 1)) rfl ?_
  refine g_aaload_39 hF (by decide +kernel : decode cX4_copy 17 = .ok (.aaload, 1)) (rfl) hs ?_
  refine g_callV hF lkX4_140 (c_X2_become X hX _ ht16 _ (show s < 19 by omega) _ (by assumption)) (by decide +kernel : decode cX4_copy 18 = .ok (.invokevirtual 140, 3)) (by decide) rfl rfl rfl rfl ht16 (Nat.le_of_ble_eq_true rfl) (fun v18 m18 h18 => ?_)
  obtain ⟨rfl, e18⟩ := h18
  have q18 : CQ m m18 := by rw [e18]; exact CQ_tset hC (by omega) (by omega) hr
  have r18 : eqR (m18 16) (m s) := by rw [e18, tset_at]; exact eqR_rfl _
  have C18 := q18.1
  have n18 : m18 45 0 = nx := by rw [q18.2 45 (by unfold garb; omega)]; exact h0
  refine g_aload_n hF (by decide +kernel : decode cX4_copy 21 = .ok (.aload_n 0, 1)) rfl ?_
  refine g_iload_n hF (by decide +kernel : decode cX4_copy 22 = .ok (.iload_n 2, 1)) rfl ?_
  refine g_callV hF lkX4_144 (c_X4_settle X hX _ (by assumption) _ (by assumption) _ (by assumption) (by assumption)) (by decide +kernel : decode cX4_copy 23 = .ok (.invokevirtual 144, 3)) (by decide) rfl rfl rfl rfl jok38 (Nat.le_of_ble_eq_true rfl) (fun v23 m23 h23 => ?_)
  obtain ⟨rfl, e23⟩ := h23
  have cw : CW m u (m s) m23 := CW_set (by assumption) q18 hn h0 r18 e23
  have hcn : cnt (m18 16) = cnt (m s) := cnt_congr r18
  rw [hcn]
  refine g_ireturn hF hQ (by decide +kernel : decode cX4_copy 26 = .ok (.ireturn, 1)) ?_
  exact ⟨rfl, cw⟩
set_option maxHeartbeats 4000000 in
set_option maxRecDepth 100000 in
theorem c_X4_join (X : jX) (hX : jxok X) (s : Nat) (hs : s < 8) (u : Nat) (hu : u < 8) (w : Nat) (hw : w < 8) (m : jM) (hC : CI m) : Con X yX4_join cX4_join 4 (some .int) 12 [vR 2 38, vI s, vI u, vI w] m (fun o m' => o = some (vI (cnt (fun z => if m u z = -2 then m s z else m u z))) ∧ CW m w (fun z => if m u z = -2 then m s z else m u z) m') := by
  refine Con.of hX (by decide) (Nat.le_of_ble_eq_true rfl) (fun F hF hQ => ?_)
  have hcs := (hC.1 s (by omega)).2
  have hr := (hC.1 s (by omega)).1
  obtain ⟨nx, hn, h0⟩ := hC.2.2.1
  have hr2 := (hC.1 u (by omega)).1
  refine g_iload_n hF (by decide +kernel : decode cX4_join 0 = .ok (.iload_n 1, 1)) rfl ?_
  refine g_callS hF lkX4_51 (c_X4_checkSlot X hX _ (by omega) (by omega) _) (by decide +kernel : decode cX4_join 1 = .ok (.invokestatic 51, 3)) (by decide) rfl rfl (Nat.le_of_ble_eq_true rfl) (fun v1 m1 h1 => ?_)
  obtain ⟨rfl, e1⟩ := h1
  obtain rfl := e1.symm
  refine g_iload_n hF (by decide +kernel : decode cX4_join 4 = .ok (.iload_n 2, 1)) rfl ?_
  refine g_callS hF lkX4_51 (c_X4_checkSlot X hX _ (by omega) (by omega) _) (by decide +kernel : decode cX4_join 5 = .ok (.invokestatic 51, 3)) (by decide) rfl rfl (Nat.le_of_ble_eq_true rfl) (fun v5 m5 h5 => ?_)
  obtain ⟨rfl, e5⟩ := h5
  obtain rfl := e5.symm
  refine g_iload_n hF (by decide +kernel : decode cX4_join 8 = .ok (.iload_n 3, 1)) rfl ?_
  refine g_callS hF lkX4_51 (c_X4_checkSlot X hX _ (by omega) (by omega) _) (by decide +kernel : decode cX4_join 9 = .ok (.invokestatic 51, 3)) (by decide) rfl rfl (Nat.le_of_ble_eq_true rfl) (fun v9 m9 h9 => ?_)
  obtain ⟨rfl, e9⟩ := h9
  obtain rfl := e9.symm
  refine g_aload_n hF (by decide +kernel : decode cX4_join 12 = .ok (.aload_n 0, 1)) rfl ?_
  refine g_getC hF lkX4_37 (by decide +kernel : decode cX4_join 13 = .ok (.getfield 37, 3)) jok38 rfl rfl ?_
  refine g_aload_n hF (by decide +kernel : decode cX4_join 16 = .ok (.aload_n 0, 1)) rfl ?_
  refine g_getC hF lkX4_11 (by decide +kernel : decode cX4_join 17 = .ok (.getfield 11, 3)) jok38 rfl rfl ?_
  refine g_iload_n hF (by decide +kernel : decode cX4_join 20 = .ok (.iload_n 1, 1)) rfl ?_
  refine g_aaload_39 hF (by decide +kernel : decode cX4_join 21 = .ok (.aaload, 1)) (rfl) hs ?_
  refine g_callV hF lkX4_140 (c_X2_become X hX _ ht16 _ (show s < 19 by omega) _ (by assumption)) (by decide +kernel : decode cX4_join 22 = .ok (.invokevirtual 140, 3)) (by decide) rfl rfl rfl rfl ht16 (Nat.le_of_ble_eq_true rfl) (fun v22 m22 h22 => ?_)
  obtain ⟨rfl, e22⟩ := h22
  have q22 : CQ m m22 := by rw [e22]; exact CQ_tset hC (by omega) (by omega) hr
  have r22 : eqR (m22 16) (m s) := by rw [e22, tset_at]; exact eqR_rfl _
  have C22 := q22.1
  have n22 : m22 45 0 = nx := by rw [q22.2 45 (by unfold garb; omega)]; exact h0
  have g22 : m22 16 = m s := by rw [e22, tset_at]
  have u22 : m22 u = m u := by rw [e22]; exact tset_ne (by omega) (by omega)
  refine g_aload_n hF (by decide +kernel : decode cX4_join 25 = .ok (.aload_n 0, 1)) rfl ?_
  refine g_getC hF lkX4_37 (by decide +kernel : decode cX4_join 26 = .ok (.getfield 37, 3)) jok38 rfl rfl ?_
  refine g_aload_n hF (by decide +kernel : decode cX4_join 29 = .ok (.aload_n 0, 1)) rfl ?_
  refine g_getC hF lkX4_11 (by decide +kernel : decode cX4_join 30 = .ok (.getfield 11, 3)) jok38 rfl rfl ?_
  refine g_iload_n hF (by decide +kernel : decode cX4_join 33 = .ok (.iload_n 2, 1)) rfl ?_
  refine g_aaload_39 hF (by decide +kernel : decode cX4_join 34 = .ok (.aaload, 1)) (rfl) hu ?_
  refine g_callV hF lkX4_147 (c_X2_markAll X hX _ ht16 _ (show u < 19 by omega) (show u ≠ 16 by omega) _ (C22.1 16 (by omega)) (C22.1 u (by omega)).1) (by decide +kernel : decode cX4_join 35 = .ok (.invokevirtual 147, 3)) (by decide) rfl rfl rfl rfl ht16 (Nat.le_of_ble_eq_true rfl) (fun v35 m35 h35 => ?_)
  obtain ⟨rfl, e35⟩ := h35
  rw [g22, u22] at e35
  have q35 : CQ m m35 := by rw [e35]; exact CQ_trans q22 (CQ_tset C22 (by omega) (by omega) (rowok_if3 hr hr2))
  have r35 : eqR (m35 16) (fun z => if m u z = -2 then m s z else m u z) := by rw [e35, tset_at]; exact eqR_rfl _
  have C35 := q35.1
  have n35 : m35 45 0 = nx := by rw [q35.2 45 (by unfold garb; omega)]; exact h0
  refine g_aload_n hF (by decide +kernel : decode cX4_join 38 = .ok (.aload_n 0, 1)) rfl ?_
  refine g_iload_n hF (by decide +kernel : decode cX4_join 39 = .ok (.iload_n 3, 1)) rfl ?_
  refine g_callV hF lkX4_144 (c_X4_settle X hX _ (by assumption) _ (by assumption) _ (by assumption) (by assumption)) (by decide +kernel : decode cX4_join 40 = .ok (.invokevirtual 144, 3)) (by decide) rfl rfl rfl rfl jok38 (Nat.le_of_ble_eq_true rfl) (fun v40 m40 h40 => ?_)
  obtain ⟨rfl, e40⟩ := h40
  have cw : CW m w (fun z => if m u z = -2 then m s z else m u z) m40 := CW_set (by assumption) q35 hn h0 r35 e40
  have hcn : cnt (m35 16) = cnt (fun z => if m u z = -2 then m s z else m u z) := cnt_congr r35
  rw [hcn]
  refine g_ireturn hF hQ (by decide +kernel : decode cX4_join 43 = .ok (.ireturn, 1)) ?_
  exact ⟨rfl, cw⟩
set_option maxHeartbeats 4000000 in
set_option maxRecDepth 100000 in
theorem c_X4_less (X : jX) (hX : jxok X) (s : Nat) (hs : s < 8) (u : Nat) (hu : u < 8) (w : Nat) (hw : w < 8) (m : jM) (hC : CI m) : Con X yX4_less cX4_less 4 (some .int) 12 [vR 2 38, vI s, vI u, vI w] m (fun o m' => o = some (vI (cnt (fun z => if m u z = -2 then m s z else -2))) ∧ CW m w (fun z => if m u z = -2 then m s z else -2) m') := by
  refine Con.of hX (by decide) (Nat.le_of_ble_eq_true rfl) (fun F hF hQ => ?_)
  have hcs := (hC.1 s (by omega)).2
  have hr := (hC.1 s (by omega)).1
  obtain ⟨nx, hn, h0⟩ := hC.2.2.1
  have hr2 := (hC.1 u (by omega)).1
  refine g_iload_n hF (by decide +kernel : decode cX4_less 0 = .ok (.iload_n 1, 1)) rfl ?_
  refine g_callS hF lkX4_51 (c_X4_checkSlot X hX _ (by omega) (by omega) _) (by decide +kernel : decode cX4_less 1 = .ok (.invokestatic 51, 3)) (by decide) rfl rfl (Nat.le_of_ble_eq_true rfl) (fun v1 m1 h1 => ?_)
  obtain ⟨rfl, e1⟩ := h1
  obtain rfl := e1.symm
  refine g_iload_n hF (by decide +kernel : decode cX4_less 4 = .ok (.iload_n 2, 1)) rfl ?_
  refine g_callS hF lkX4_51 (c_X4_checkSlot X hX _ (by omega) (by omega) _) (by decide +kernel : decode cX4_less 5 = .ok (.invokestatic 51, 3)) (by decide) rfl rfl (Nat.le_of_ble_eq_true rfl) (fun v5 m5 h5 => ?_)
  obtain ⟨rfl, e5⟩ := h5
  obtain rfl := e5.symm
  refine g_iload_n hF (by decide +kernel : decode cX4_less 8 = .ok (.iload_n 3, 1)) rfl ?_
  refine g_callS hF lkX4_51 (c_X4_checkSlot X hX _ (by omega) (by omega) _) (by decide +kernel : decode cX4_less 9 = .ok (.invokestatic 51, 3)) (by decide) rfl rfl (Nat.le_of_ble_eq_true rfl) (fun v9 m9 h9 => ?_)
  obtain ⟨rfl, e9⟩ := h9
  obtain rfl := e9.symm
  refine g_aload_n hF (by decide +kernel : decode cX4_less 12 = .ok (.aload_n 0, 1)) rfl ?_
  refine g_getC hF lkX4_37 (by decide +kernel : decode cX4_less 13 = .ok (.getfield 37, 3)) jok38 rfl rfl ?_
  refine g_aload_n hF (by decide +kernel : decode cX4_less 16 = .ok (.aload_n 0, 1)) rfl ?_
  refine g_getC hF lkX4_11 (by decide +kernel : decode cX4_less 17 = .ok (.getfield 11, 3)) jok38 rfl rfl ?_
  refine g_iload_n hF (by decide +kernel : decode cX4_less 20 = .ok (.iload_n 1, 1)) rfl ?_
  refine g_aaload_39 hF (by decide +kernel : decode cX4_less 21 = .ok (.aaload, 1)) (rfl) hs ?_
  refine g_callV hF lkX4_140 (c_X2_become X hX _ ht16 _ (show s < 19 by omega) _ (by assumption)) (by decide +kernel : decode cX4_less 22 = .ok (.invokevirtual 140, 3)) (by decide) rfl rfl rfl rfl ht16 (Nat.le_of_ble_eq_true rfl) (fun v22 m22 h22 => ?_)
  obtain ⟨rfl, e22⟩ := h22
  have q22 : CQ m m22 := by rw [e22]; exact CQ_tset hC (by omega) (by omega) hr
  have r22 : eqR (m22 16) (m s) := by rw [e22, tset_at]; exact eqR_rfl _
  have C22 := q22.1
  have n22 : m22 45 0 = nx := by rw [q22.2 45 (by unfold garb; omega)]; exact h0
  have g22 : m22 16 = m s := by rw [e22, tset_at]
  have u22 : m22 u = m u := by rw [e22]; exact tset_ne (by omega) (by omega)
  refine g_aload_n hF (by decide +kernel : decode cX4_less 25 = .ok (.aload_n 0, 1)) rfl ?_
  refine g_getC hF lkX4_37 (by decide +kernel : decode cX4_less 26 = .ok (.getfield 37, 3)) jok38 rfl rfl ?_
  refine g_aload_n hF (by decide +kernel : decode cX4_less 29 = .ok (.aload_n 0, 1)) rfl ?_
  refine g_getC hF lkX4_11 (by decide +kernel : decode cX4_less 30 = .ok (.getfield 11, 3)) jok38 rfl rfl ?_
  refine g_iload_n hF (by decide +kernel : decode cX4_less 33 = .ok (.iload_n 2, 1)) rfl ?_
  refine g_aaload_39 hF (by decide +kernel : decode cX4_less 34 = .ok (.aaload, 1)) (rfl) hu ?_
  refine g_callV hF lkX4_150 (c_X2_eraseKeysOf X hX _ ht16 _ (show u < 19 by omega) (show u ≠ 16 by omega) _ (C22.1 16 (by omega)) (C22.1 u (by omega)).1) (by decide +kernel : decode cX4_less 35 = .ok (.invokevirtual 150, 3)) (by decide) rfl rfl rfl rfl ht16 (Nat.le_of_ble_eq_true rfl) (fun v35 m35 h35 => ?_)
  obtain ⟨rfl, e35⟩ := h35
  rw [g22, u22] at e35
  have q35 : CQ m m35 := by rw [e35]; exact CQ_trans q22 (CQ_tset C22 (by omega) (by omega) (rowok_if2 hr))
  have r35 : eqR (m35 16) (fun z => if m u z = -2 then m s z else -2) := by rw [e35, tset_at]; exact eqR_rfl _
  have C35 := q35.1
  have n35 : m35 45 0 = nx := by rw [q35.2 45 (by unfold garb; omega)]; exact h0
  refine g_aload_n hF (by decide +kernel : decode cX4_less 38 = .ok (.aload_n 0, 1)) rfl ?_
  refine g_iload_n hF (by decide +kernel : decode cX4_less 39 = .ok (.iload_n 3, 1)) rfl ?_
  refine g_callV hF lkX4_144 (c_X4_settle X hX _ (by assumption) _ (by assumption) _ (by assumption) (by assumption)) (by decide +kernel : decode cX4_less 40 = .ok (.invokevirtual 144, 3)) (by decide) rfl rfl rfl rfl jok38 (Nat.le_of_ble_eq_true rfl) (fun v40 m40 h40 => ?_)
  obtain ⟨rfl, e40⟩ := h40
  have cw : CW m w (fun z => if m u z = -2 then m s z else -2) m40 := CW_set (by assumption) q35 hn h0 r35 e40
  have hcn : cnt (m35 16) = cnt (fun z => if m u z = -2 then m s z else -2) := cnt_congr r35
  rw [hcn]
  refine g_ireturn hF hQ (by decide +kernel : decode cX4_less 43 = .ok (.ireturn, 1)) ?_
  exact ⟨rfl, cw⟩
set_option maxHeartbeats 4000000 in
set_option maxRecDepth 100000 in
theorem c_X4_common (X : jX) (hX : jxok X) (s : Nat) (hs : s < 8) (u : Nat) (hu : u < 8) (w : Nat) (hw : w < 8) (m : jM) (hC : CI m) : Con X yX4_common cX4_common 4 (some .int) 12 [vR 2 38, vI s, vI u, vI w] m (fun o m' => o = some (vI (cnt (fun z => if m u z = -2 then -2 else m s z))) ∧ CW m w (fun z => if m u z = -2 then -2 else m s z) m') := by
  refine Con.of hX (by decide) (Nat.le_of_ble_eq_true rfl) (fun F hF hQ => ?_)
  have hcs := (hC.1 s (by omega)).2
  have hr := (hC.1 s (by omega)).1
  obtain ⟨nx, hn, h0⟩ := hC.2.2.1
  have hr2 := (hC.1 u (by omega)).1
  refine g_iload_n hF (by decide +kernel : decode cX4_common 0 = .ok (.iload_n 1, 1)) rfl ?_
  refine g_callS hF lkX4_51 (c_X4_checkSlot X hX _ (by omega) (by omega) _) (by decide +kernel : decode cX4_common 1 = .ok (.invokestatic 51, 3)) (by decide) rfl rfl (Nat.le_of_ble_eq_true rfl) (fun v1 m1 h1 => ?_)
  obtain ⟨rfl, e1⟩ := h1
  obtain rfl := e1.symm
  refine g_iload_n hF (by decide +kernel : decode cX4_common 4 = .ok (.iload_n 2, 1)) rfl ?_
  refine g_callS hF lkX4_51 (c_X4_checkSlot X hX _ (by omega) (by omega) _) (by decide +kernel : decode cX4_common 5 = .ok (.invokestatic 51, 3)) (by decide) rfl rfl (Nat.le_of_ble_eq_true rfl) (fun v5 m5 h5 => ?_)
  obtain ⟨rfl, e5⟩ := h5
  obtain rfl := e5.symm
  refine g_iload_n hF (by decide +kernel : decode cX4_common 8 = .ok (.iload_n 3, 1)) rfl ?_
  refine g_callS hF lkX4_51 (c_X4_checkSlot X hX _ (by omega) (by omega) _) (by decide +kernel : decode cX4_common 9 = .ok (.invokestatic 51, 3)) (by decide) rfl rfl (Nat.le_of_ble_eq_true rfl) (fun v9 m9 h9 => ?_)
  obtain ⟨rfl, e9⟩ := h9
  obtain rfl := e9.symm
  refine g_aload_n hF (by decide +kernel : decode cX4_common 12 = .ok (.aload_n 0, 1)) rfl ?_
  refine g_getC hF lkX4_37 (by decide +kernel : decode cX4_common 13 = .ok (.getfield 37, 3)) jok38 rfl rfl ?_
  refine g_aload_n hF (by decide +kernel : decode cX4_common 16 = .ok (.aload_n 0, 1)) rfl ?_
  refine g_getC hF lkX4_11 (by decide +kernel : decode cX4_common 17 = .ok (.getfield 11, 3)) jok38 rfl rfl ?_
  refine g_iload_n hF (by decide +kernel : decode cX4_common 20 = .ok (.iload_n 1, 1)) rfl ?_
  refine g_aaload_39 hF (by decide +kernel : decode cX4_common 21 = .ok (.aaload, 1)) (rfl) hs ?_
  refine g_callV hF lkX4_140 (c_X2_become X hX _ ht16 _ (show s < 19 by omega) _ (by assumption)) (by decide +kernel : decode cX4_common 22 = .ok (.invokevirtual 140, 3)) (by decide) rfl rfl rfl rfl ht16 (Nat.le_of_ble_eq_true rfl) (fun v22 m22 h22 => ?_)
  obtain ⟨rfl, e22⟩ := h22
  have q22 : CQ m m22 := by rw [e22]; exact CQ_tset hC (by omega) (by omega) hr
  have r22 : eqR (m22 16) (m s) := by rw [e22, tset_at]; exact eqR_rfl _
  have C22 := q22.1
  have n22 : m22 45 0 = nx := by rw [q22.2 45 (by unfold garb; omega)]; exact h0
  have g22 : m22 16 = m s := by rw [e22, tset_at]
  have u22 : m22 u = m u := by rw [e22]; exact tset_ne (by omega) (by omega)
  refine g_aload_n hF (by decide +kernel : decode cX4_common 25 = .ok (.aload_n 0, 1)) rfl ?_
  refine g_getC hF lkX4_37 (by decide +kernel : decode cX4_common 26 = .ok (.getfield 37, 3)) jok38 rfl rfl ?_
  refine g_aload_n hF (by decide +kernel : decode cX4_common 29 = .ok (.aload_n 0, 1)) rfl ?_
  refine g_getC hF lkX4_11 (by decide +kernel : decode cX4_common 30 = .ok (.getfield 11, 3)) jok38 rfl rfl ?_
  refine g_iload_n hF (by decide +kernel : decode cX4_common 33 = .ok (.iload_n 2, 1)) rfl ?_
  refine g_aaload_39 hF (by decide +kernel : decode cX4_common 34 = .ok (.aaload, 1)) (rfl) hu ?_
  refine g_callV hF lkX4_153 (c_X2_retainKeysOf X hX _ ht16 _ (show u < 19 by omega) (show u ≠ 16 by omega) _ (C22.1 16 (by omega)) (C22.1 u (by omega)).1) (by decide +kernel : decode cX4_common 35 = .ok (.invokevirtual 153, 3)) (by decide) rfl rfl rfl rfl ht16 (Nat.le_of_ble_eq_true rfl) (fun v35 m35 h35 => ?_)
  obtain ⟨rfl, e35⟩ := h35
  rw [g22, u22] at e35
  have q35 : CQ m m35 := by rw [e35]; exact CQ_trans q22 (CQ_tset C22 (by omega) (by omega) (rowok_if hr))
  have r35 : eqR (m35 16) (fun z => if m u z = -2 then -2 else m s z) := by rw [e35, tset_at]; exact eqR_rfl _
  have C35 := q35.1
  have n35 : m35 45 0 = nx := by rw [q35.2 45 (by unfold garb; omega)]; exact h0
  refine g_aload_n hF (by decide +kernel : decode cX4_common 38 = .ok (.aload_n 0, 1)) rfl ?_
  refine g_iload_n hF (by decide +kernel : decode cX4_common 39 = .ok (.iload_n 3, 1)) rfl ?_
  refine g_callV hF lkX4_144 (c_X4_settle X hX _ (by assumption) _ (by assumption) _ (by assumption) (by assumption)) (by decide +kernel : decode cX4_common 40 = .ok (.invokevirtual 144, 3)) (by decide) rfl rfl rfl rfl jok38 (Nat.le_of_ble_eq_true rfl) (fun v40 m40 h40 => ?_)
  obtain ⟨rfl, e40⟩ := h40
  have cw : CW m w (fun z => if m u z = -2 then -2 else m s z) m40 := CW_set (by assumption) q35 hn h0 r35 e40
  have hcn : cnt (m35 16) = cnt (fun z => if m u z = -2 then -2 else m s z) := cnt_congr r35
  rw [hcn]
  refine g_ireturn hF hQ (by decide +kernel : decode cX4_common 43 = .ok (.ireturn, 1)) ?_
  exact ⟨rfl, cw⟩
set_option maxHeartbeats 4000000 in
set_option maxRecDepth 100000 in
theorem c_X4_alike (X : jX) (hX : jxok X) (s : Nat) (hs : s < 8) (u : Nat) (hu : u < 8) (w : Nat) (hw : w < 8) (m : jM) (hC : CI m) : Con X yX4_alike cX4_alike 4 (some .int) 12 [vR 2 38, vI s, vI u, vI w] m (fun o m' => o = some (vI (cnt (fun z => if m s z = m u z then m s z else -2))) ∧ CW m w (fun z => if m s z = m u z then m s z else -2) m') := by
  refine Con.of hX (by decide) (Nat.le_of_ble_eq_true rfl) (fun F hF hQ => ?_)
  have hcs := (hC.1 s (by omega)).2
  have hr := (hC.1 s (by omega)).1
  obtain ⟨nx, hn, h0⟩ := hC.2.2.1
  have hr2 := (hC.1 u (by omega)).1
  refine g_iload_n hF (by decide +kernel : decode cX4_alike 0 = .ok (.iload_n 1, 1)) rfl ?_
  refine g_callS hF lkX4_51 (c_X4_checkSlot X hX _ (by omega) (by omega) _) (by decide +kernel : decode cX4_alike 1 = .ok (.invokestatic 51, 3)) (by decide) rfl rfl (Nat.le_of_ble_eq_true rfl) (fun v1 m1 h1 => ?_)
  obtain ⟨rfl, e1⟩ := h1
  obtain rfl := e1.symm
  refine g_iload_n hF (by decide +kernel : decode cX4_alike 4 = .ok (.iload_n 2, 1)) rfl ?_
  refine g_callS hF lkX4_51 (c_X4_checkSlot X hX _ (by omega) (by omega) _) (by decide +kernel : decode cX4_alike 5 = .ok (.invokestatic 51, 3)) (by decide) rfl rfl (Nat.le_of_ble_eq_true rfl) (fun v5 m5 h5 => ?_)
  obtain ⟨rfl, e5⟩ := h5
  obtain rfl := e5.symm
  refine g_iload_n hF (by decide +kernel : decode cX4_alike 8 = .ok (.iload_n 3, 1)) rfl ?_
  refine g_callS hF lkX4_51 (c_X4_checkSlot X hX _ (by omega) (by omega) _) (by decide +kernel : decode cX4_alike 9 = .ok (.invokestatic 51, 3)) (by decide) rfl rfl (Nat.le_of_ble_eq_true rfl) (fun v9 m9 h9 => ?_)
  obtain ⟨rfl, e9⟩ := h9
  obtain rfl := e9.symm
  refine g_aload_n hF (by decide +kernel : decode cX4_alike 12 = .ok (.aload_n 0, 1)) rfl ?_
  refine g_getC hF lkX4_37 (by decide +kernel : decode cX4_alike 13 = .ok (.getfield 37, 3)) jok38 rfl rfl ?_
  refine g_aload_n hF (by decide +kernel : decode cX4_alike 16 = .ok (.aload_n 0, 1)) rfl ?_
  refine g_getC hF lkX4_11 (by decide +kernel : decode cX4_alike 17 = .ok (.getfield 11, 3)) jok38 rfl rfl ?_
  refine g_iload_n hF (by decide +kernel : decode cX4_alike 20 = .ok (.iload_n 1, 1)) rfl ?_
  refine g_aaload_39 hF (by decide +kernel : decode cX4_alike 21 = .ok (.aaload, 1)) (rfl) hs ?_
  refine g_callV hF lkX4_140 (c_X2_become X hX _ ht16 _ (show s < 19 by omega) _ (by assumption)) (by decide +kernel : decode cX4_alike 22 = .ok (.invokevirtual 140, 3)) (by decide) rfl rfl rfl rfl ht16 (Nat.le_of_ble_eq_true rfl) (fun v22 m22 h22 => ?_)
  obtain ⟨rfl, e22⟩ := h22
  have q22 : CQ m m22 := by rw [e22]; exact CQ_tset hC (by omega) (by omega) hr
  have r22 : eqR (m22 16) (m s) := by rw [e22, tset_at]; exact eqR_rfl _
  have C22 := q22.1
  have n22 : m22 45 0 = nx := by rw [q22.2 45 (by unfold garb; omega)]; exact h0
  have g22 : m22 16 = m s := by rw [e22, tset_at]
  have u22 : m22 u = m u := by rw [e22]; exact tset_ne (by omega) (by omega)
  refine g_aload_n hF (by decide +kernel : decode cX4_alike 25 = .ok (.aload_n 0, 1)) rfl ?_
  refine g_getC hF lkX4_37 (by decide +kernel : decode cX4_alike 26 = .ok (.getfield 37, 3)) jok38 rfl rfl ?_
  refine g_aload_n hF (by decide +kernel : decode cX4_alike 29 = .ok (.aload_n 0, 1)) rfl ?_
  refine g_getC hF lkX4_11 (by decide +kernel : decode cX4_alike 30 = .ok (.getfield 11, 3)) jok38 rfl rfl ?_
  refine g_iload_n hF (by decide +kernel : decode cX4_alike 33 = .ok (.iload_n 2, 1)) rfl ?_
  refine g_aaload_39 hF (by decide +kernel : decode cX4_alike 34 = .ok (.aaload, 1)) (rfl) hu ?_
  refine g_callV hF lkX4_156 (c_X2_retainPairsOf X hX _ ht16 _ (show u < 19 by omega) (show u ≠ 16 by omega) _ (C22.1 16 (by omega)) (C22.1 u (by omega)).1) (by decide +kernel : decode cX4_alike 35 = .ok (.invokevirtual 156, 3)) (by decide) rfl rfl rfl rfl ht16 (Nat.le_of_ble_eq_true rfl) (fun v35 m35 h35 => ?_)
  obtain ⟨rfl, e35⟩ := h35
  rw [g22, u22] at e35
  have q35 : CQ m m35 := by rw [e35]; exact CQ_trans q22 (CQ_tset C22 (by omega) (by omega) (rowok_if2 hr))
  have r35 : eqR (m35 16) (fun z => if m s z = m u z then m s z else -2) := by rw [e35, tset_at]; exact eqR_rfl _
  have C35 := q35.1
  have n35 : m35 45 0 = nx := by rw [q35.2 45 (by unfold garb; omega)]; exact h0
  refine g_aload_n hF (by decide +kernel : decode cX4_alike 38 = .ok (.aload_n 0, 1)) rfl ?_
  refine g_iload_n hF (by decide +kernel : decode cX4_alike 39 = .ok (.iload_n 3, 1)) rfl ?_
  refine g_callV hF lkX4_144 (c_X4_settle X hX _ (by assumption) _ (by assumption) _ (by assumption) (by assumption)) (by decide +kernel : decode cX4_alike 40 = .ok (.invokevirtual 144, 3)) (by decide) rfl rfl rfl rfl jok38 (Nat.le_of_ble_eq_true rfl) (fun v40 m40 h40 => ?_)
  obtain ⟨rfl, e40⟩ := h40
  have cw : CW m w (fun z => if m s z = m u z then m s z else -2) m40 := CW_set (by assumption) q35 hn h0 r35 e40
  have hcn : cnt (m35 16) = cnt (fun z => if m s z = m u z then m s z else -2) := cnt_congr r35
  rw [hcn]
  refine g_ireturn hF hQ (by decide +kernel : decode cX4_alike 43 = .ok (.ireturn, 1)) ?_
  exact ⟨rfl, cw⟩
set_option maxHeartbeats 4000000 in
set_option maxRecDepth 100000 in
theorem c_X4_behind (X : jX) (hX : jxok X) (s : Nat) (hs : s < 8) (u : Nat) (hu : u < 8) (w : Nat) (hw : w < 8) (m : jM) (hC : CI m) : Con X yX4_behind cX4_behind 4 (some .int) 12 [vR 2 38, vI s, vI u, vI w] m (fun o m' => o = some (vI (cnt (fun z => if m s z = -2 then -2 else tat (m u) (m s z)))) ∧ CW m w (fun z => if m s z = -2 then -2 else tat (m u) (m s z)) m') := by
  refine Con.of hX (by decide) (Nat.le_of_ble_eq_true rfl) (fun F hF hQ => ?_)
  have hcs := (hC.1 s (by omega)).2
  have hr := (hC.1 s (by omega)).1
  obtain ⟨nx, hn, h0⟩ := hC.2.2.1
  have hr2 := (hC.1 u (by omega)).1
  refine g_iload_n hF (by decide +kernel : decode cX4_behind 0 = .ok (.iload_n 1, 1)) rfl ?_
  refine g_callS hF lkX4_51 (c_X4_checkSlot X hX _ (by omega) (by omega) _) (by decide +kernel : decode cX4_behind 1 = .ok (.invokestatic 51, 3)) (by decide) rfl rfl (Nat.le_of_ble_eq_true rfl) (fun v1 m1 h1 => ?_)
  obtain ⟨rfl, e1⟩ := h1
  obtain rfl := e1.symm
  refine g_iload_n hF (by decide +kernel : decode cX4_behind 4 = .ok (.iload_n 2, 1)) rfl ?_
  refine g_callS hF lkX4_51 (c_X4_checkSlot X hX _ (by omega) (by omega) _) (by decide +kernel : decode cX4_behind 5 = .ok (.invokestatic 51, 3)) (by decide) rfl rfl (Nat.le_of_ble_eq_true rfl) (fun v5 m5 h5 => ?_)
  obtain ⟨rfl, e5⟩ := h5
  obtain rfl := e5.symm
  refine g_iload_n hF (by decide +kernel : decode cX4_behind 8 = .ok (.iload_n 3, 1)) rfl ?_
  refine g_callS hF lkX4_51 (c_X4_checkSlot X hX _ (by omega) (by omega) _) (by decide +kernel : decode cX4_behind 9 = .ok (.invokestatic 51, 3)) (by decide) rfl rfl (Nat.le_of_ble_eq_true rfl) (fun v9 m9 h9 => ?_)
  obtain ⟨rfl, e9⟩ := h9
  obtain rfl := e9.symm
  refine g_aload_n hF (by decide +kernel : decode cX4_behind 12 = .ok (.aload_n 0, 1)) rfl ?_
  refine g_getC hF lkX4_37 (by decide +kernel : decode cX4_behind 13 = .ok (.getfield 37, 3)) jok38 rfl rfl ?_
  refine g_aload_n hF (by decide +kernel : decode cX4_behind 16 = .ok (.aload_n 0, 1)) rfl ?_
  refine g_getC hF lkX4_11 (by decide +kernel : decode cX4_behind 17 = .ok (.getfield 11, 3)) jok38 rfl rfl ?_
  refine g_iload_n hF (by decide +kernel : decode cX4_behind 20 = .ok (.iload_n 1, 1)) rfl ?_
  refine g_aaload_39 hF (by decide +kernel : decode cX4_behind 21 = .ok (.aaload, 1)) (rfl) hs ?_
  refine g_callV hF lkX4_140 (c_X2_become X hX _ ht16 _ (show s < 19 by omega) _ (by assumption)) (by decide +kernel : decode cX4_behind 22 = .ok (.invokevirtual 140, 3)) (by decide) rfl rfl rfl rfl ht16 (Nat.le_of_ble_eq_true rfl) (fun v22 m22 h22 => ?_)
  obtain ⟨rfl, e22⟩ := h22
  have q22 : CQ m m22 := by rw [e22]; exact CQ_tset hC (by omega) (by omega) hr
  have r22 : eqR (m22 16) (m s) := by rw [e22, tset_at]; exact eqR_rfl _
  have C22 := q22.1
  have n22 : m22 45 0 = nx := by rw [q22.2 45 (by unfold garb; omega)]; exact h0
  have g22 : m22 16 = m s := by rw [e22, tset_at]
  have u22 : m22 u = m u := by rw [e22]; exact tset_ne (by omega) (by omega)
  refine g_aload_n hF (by decide +kernel : decode cX4_behind 25 = .ok (.aload_n 0, 1)) rfl ?_
  refine g_getC hF lkX4_37 (by decide +kernel : decode cX4_behind 26 = .ok (.getfield 37, 3)) jok38 rfl rfl ?_
  refine g_aload_n hF (by decide +kernel : decode cX4_behind 29 = .ok (.aload_n 0, 1)) rfl ?_
  refine g_getC hF lkX4_11 (by decide +kernel : decode cX4_behind 30 = .ok (.getfield 11, 3)) jok38 rfl rfl ?_
  refine g_iload_n hF (by decide +kernel : decode cX4_behind 33 = .ok (.iload_n 2, 1)) rfl ?_
  refine g_aaload_39 hF (by decide +kernel : decode cX4_behind 34 = .ok (.aaload, 1)) (rfl) hu ?_
  refine g_callV hF lkX4_159 (c_X2_sendThrough X hX _ ht16 _ (show u < 19 by omega) (show u ≠ 16 by omega) _ (C22.1 16 (by omega)) (C22.1 u (by omega)).1) (by decide +kernel : decode cX4_behind 35 = .ok (.invokevirtual 159, 3)) (by decide) rfl rfl rfl rfl ht16 (Nat.le_of_ble_eq_true rfl) (fun v35 m35 h35 => ?_)
  obtain ⟨rfl, e35⟩ := h35
  rw [g22, u22] at e35
  have q35 : CQ m m35 := by rw [e35]; exact CQ_trans q22 (CQ_tset C22 (by omega) (by omega) (comp_ok (h := m u) (g := m s) hr2))
  have r35 : eqR (m35 16) (fun z => if m s z = -2 then -2 else tat (m u) (m s z)) := by rw [e35, tset_at]; exact eqR_rfl _
  have C35 := q35.1
  have n35 : m35 45 0 = nx := by rw [q35.2 45 (by unfold garb; omega)]; exact h0
  refine g_aload_n hF (by decide +kernel : decode cX4_behind 38 = .ok (.aload_n 0, 1)) rfl ?_
  refine g_iload_n hF (by decide +kernel : decode cX4_behind 39 = .ok (.iload_n 3, 1)) rfl ?_
  refine g_callV hF lkX4_144 (c_X4_settle X hX _ (by assumption) _ (by assumption) _ (by assumption) (by assumption)) (by decide +kernel : decode cX4_behind 40 = .ok (.invokevirtual 144, 3)) (by decide) rfl rfl rfl rfl jok38 (Nat.le_of_ble_eq_true rfl) (fun v40 m40 h40 => ?_)
  obtain ⟨rfl, e40⟩ := h40
  have cw : CW m w (fun z => if m s z = -2 then -2 else tat (m u) (m s z)) m40 := CW_set (by assumption) q35 hn h0 r35 e40
  have hcn : cnt (m35 16) = cnt (fun z => if m s z = -2 then -2 else tat (m u) (m s z)) := cnt_congr r35
  rw [hcn]
  refine g_ireturn hF hQ (by decide +kernel : decode cX4_behind 43 = .ok (.ireturn, 1)) ?_
  exact ⟨rfl, cw⟩
set_option maxHeartbeats 4000000 in
set_option maxRecDepth 100000 in
theorem c_X4_turn (X : jX) (hX : jxok X) (s : Nat) (hs : s < 8) (u : Nat) (hu : u < 8) (m : jM) (hC : CI m) (ho : once (m s)) : Con X yX4_turn cX4_turn 3 (some .int) 12 [vR 2 38, vI s, vI u] m (fun o m' => o = some (vI (cnt (turnN (m s) 257))) ∧ CW m u (turnN (m s) 257) m') := by
  refine Con.of hX (by decide) (Nat.le_of_ble_eq_true rfl) (fun F hF hQ => ?_)
  have hr := (hC.1 s (by omega)).1
  obtain ⟨nx, hn, h0⟩ := hC.2.2.1
  have hk := (kinds_once hr).mpr ho
  have hts := hC.1 s (by omega)
  refine g_iload_n hF (by decide +kernel : decode cX4_turn 0 = .ok (.iload_n 1, 1)) rfl ?_
  refine g_callS hF lkX4_51 (c_X4_checkSlot X hX _ (by omega) (by omega) _) (by decide +kernel : decode cX4_turn 1 = .ok (.invokestatic 51, 3)) (by decide) rfl rfl (Nat.le_of_ble_eq_true rfl) (fun v1 m1 h1 => ?_)
  obtain ⟨rfl, e1⟩ := h1
  obtain rfl := e1.symm
  refine g_iload_n hF (by decide +kernel : decode cX4_turn 4 = .ok (.iload_n 2, 1)) rfl ?_
  refine g_callS hF lkX4_51 (c_X4_checkSlot X hX _ (by omega) (by omega) _) (by decide +kernel : decode cX4_turn 5 = .ok (.invokestatic 51, 3)) (by decide) rfl rfl (Nat.le_of_ble_eq_true rfl) (fun v5 m5 h5 => ?_)
  obtain ⟨rfl, e5⟩ := h5
  obtain rfl := e5.symm
  refine g_aload_n hF (by decide +kernel : decode cX4_turn 8 = .ok (.aload_n 0, 1)) rfl ?_
  refine g_aload_n hF (by decide +kernel : decode cX4_turn 9 = .ok (.aload_n 0, 1)) rfl ?_
  refine g_getC hF lkX4_11 (by decide +kernel : decode cX4_turn 10 = .ok (.getfield 11, 3)) jok38 rfl rfl ?_
  refine g_iload_n hF (by decide +kernel : decode cX4_turn 13 = .ok (.iload_n 1, 1)) rfl ?_
  refine g_aaload_39 hF (by decide +kernel : decode cX4_turn 14 = .ok (.aaload, 1)) (rfl) hs ?_
  refine g_callV hF lkX4_162 (c_X4_checkTurns X hX _ (show s < 19 by omega) _ (by assumption) (by assumption)) (by decide +kernel : decode cX4_turn 15 = .ok (.invokevirtual 162, 3)) (by decide) rfl rfl rfl rfl jok38 (Nat.le_of_ble_eq_true rfl) (fun v15 m15 h15 => ?_)
  obtain ⟨rfl, G15, e15⟩ := h15
  have q15 : CQ m m15 := by rw [e15]; exact CQ_row hC (by unfold garb; omega) (by omega) G15
  have s15 : m15 s = m s := by rw [e15]; exact mrow_ne (by omega)
  refine g_aload_n hF (by decide +kernel : decode cX4_turn 18 = .ok (.aload_n 0, 1)) rfl ?_
  refine g_getC hF lkX4_37 (by decide +kernel : decode cX4_turn 19 = .ok (.getfield 37, 3)) jok38 rfl rfl ?_
  refine g_aload_n hF (by decide +kernel : decode cX4_turn 22 = .ok (.aload_n 0, 1)) rfl ?_
  refine g_getC hF lkX4_11 (by decide +kernel : decode cX4_turn 23 = .ok (.getfield 11, 3)) jok38 rfl rfl ?_
  refine g_iload_n hF (by decide +kernel : decode cX4_turn 26 = .ok (.iload_n 1, 1)) rfl ?_
  refine g_aaload_39 hF (by decide +kernel : decode cX4_turn 27 = .ok (.aaload, 1)) (rfl) hs ?_
  refine g_callV hF lkX4_165 (c_X2_becomeTurned X hX _ ht16 _ (show s < 19 by omega) (show s ≠ 16 by omega) _ (q15.1.1 s (by omega)).1) (by decide +kernel : decode cX4_turn 28 = .ok (.invokevirtual 165, 3)) (by decide) rfl rfl rfl rfl ht16 (Nat.le_of_ble_eq_true rfl) (fun v28 m28 h28 => ?_)
  obtain ⟨rfl, e28⟩ := h28
  rw [s15] at e28
  have q28 : CQ m m28 := by rw [e28]; exact CQ_trans q15 (CQ_tset q15.1 (by omega) (by omega) (turn_ok (m s)))
  have r28 : eqR (m28 16) (turnN (m s) 257) := by rw [e28, tset_at]; exact eqR_rfl _
  have C28 := q28.1
  have n28 : m28 45 0 = nx := by rw [q28.2 45 (by unfold garb; omega)]; exact h0
  refine g_aload_n hF (by decide +kernel : decode cX4_turn 31 = .ok (.aload_n 0, 1)) rfl ?_
  refine g_iload_n hF (by decide +kernel : decode cX4_turn 32 = .ok (.iload_n 2, 1)) rfl ?_
  refine g_callV hF lkX4_144 (c_X4_settle X hX _ (by assumption) _ (by assumption) _ (by assumption) (by assumption)) (by decide +kernel : decode cX4_turn 33 = .ok (.invokevirtual 144, 3)) (by decide) rfl rfl rfl rfl jok38 (Nat.le_of_ble_eq_true rfl) (fun v33 m33 h33 => ?_)
  obtain ⟨rfl, e33⟩ := h33
  have cw : CW m u (turnN (m s) 257) m33 := CW_set (by assumption) q28 hn h0 r28 e33
  have hcn : cnt (m28 16) = cnt (turnN (m s) 257) := cnt_congr r28
  rw [hcn]
  refine g_ireturn hF hQ (by decide +kernel : decode cX4_turn 36 = .ok (.ireturn, 1)) ?_
  exact ⟨rfl, cw⟩
set_option maxHeartbeats 4000000 in
set_option maxRecDepth 100000 in
theorem c_X4_power (X : jX) (hX : jxok X) (s : Nat) (hs : s < 8) (e : Nat) (he : e ≤ 1000) (u : Nat) (hu : u < 8) (m : jM) (hC : CI m) : Con X yX4_power cX4_power 4 (some .int) 12 [vR 2 38, vI s, vI e, vI u] m (fun o m' => o = some (vI (cnt (powN (m s) (selv (m s)) e))) ∧ CW m u (powN (m s) (selv (m s)) e) m') := by
  refine Con.of hX (by decide) (Nat.le_of_ble_eq_true rfl) (fun F hF hQ => ?_)
  have hr := (hC.1 s (by omega)).1
  obtain ⟨nx, hn, h0⟩ := hC.2.2.1
  refine g_iload_n hF (by decide +kernel : decode cX4_power 0 = .ok (.iload_n 1, 1)) rfl ?_
  refine g_callS hF lkX4_51 (c_X4_checkSlot X hX _ (by omega) (by omega) _) (by decide +kernel : decode cX4_power 1 = .ok (.invokestatic 51, 3)) (by decide) rfl rfl (Nat.le_of_ble_eq_true rfl) (fun v1 m1 h1 => ?_)
  obtain ⟨rfl, e1⟩ := h1
  obtain rfl := e1.symm
  refine g_iload_n hF (by decide +kernel : decode cX4_power 4 = .ok (.iload_n 3, 1)) rfl ?_
  refine g_callS hF lkX4_51 (c_X4_checkSlot X hX _ (by omega) (by omega) _) (by decide +kernel : decode cX4_power 5 = .ok (.invokestatic 51, 3)) (by decide) rfl rfl (Nat.le_of_ble_eq_true rfl) (fun v5 m5 h5 => ?_)
  obtain ⟨rfl, e5⟩ := h5
  obtain rfl := e5.symm
  refine g_iload_n hF (by decide +kernel : decode cX4_power 8 = .ok (.iload_n 2, 1)) rfl ?_
  refine g_iconst hF (by decide +kernel : decode cX4_power 9 = .ok (.iconst 0, 1)) ?_
  refine g_sipush hF (by decide +kernel : decode cX4_power 10 = .ok (.sipush 1000, 3)) (by decide) ?_
  refine g_callS hF lkX4_70 (c_X4_checkRange X hX _ _ _ (by omega) (by omega) (by omega) (by omega) _) (by decide +kernel : decode cX4_power 13 = .ok (.invokestatic 70, 3)) (by decide) rfl rfl (Nat.le_of_ble_eq_true rfl) (fun v13 m13 h13 => ?_)
  obtain ⟨rfl, e13⟩ := h13
  obtain rfl := e13.symm
  refine g_aload_n hF (by decide +kernel : decode cX4_power 16 = .ok (.aload_n 0, 1)) rfl ?_
  refine g_aload_n hF (by decide +kernel : decode cX4_power 17 = .ok (.aload_n 0, 1)) rfl ?_
  refine g_getC hF lkX4_11 (by decide +kernel : decode cX4_power 18 = .ok (.getfield 11, 3)) jok38 rfl rfl ?_
  refine g_iload_n hF (by decide +kernel : decode cX4_power 21 = .ok (.iload_n 1, 1)) rfl ?_
  refine g_aaload_39 hF (by decide +kernel : decode cX4_power 22 = .ok (.aaload, 1)) (rfl) hs ?_
  refine g_iload_n hF (by decide +kernel : decode cX4_power 23 = .ok (.iload_n 2, 1)) rfl ?_
  refine g_callV hF lkX4_168 (c_X4_raise X hX _ hs _ he _ hC) (by decide +kernel : decode cX4_power 24 = .ok (.invokevirtual 168, 3)) (by decide) rfl rfl rfl rfl jok38 (Nat.le_of_ble_eq_true rfl) (fun v24 m24 h24 => ?_)
  obtain ⟨rfl, q24, r24⟩ := h24
  have C24 := q24.1
  have n24 : m24 45 0 = nx := by rw [q24.2 45 (by unfold garb; omega)]; exact h0
  refine g_aload_n hF (by decide +kernel : decode cX4_power 27 = .ok (.aload_n 0, 1)) rfl ?_
  refine g_iload_n hF (by decide +kernel : decode cX4_power 28 = .ok (.iload_n 3, 1)) rfl ?_
  refine g_callV hF lkX4_144 (c_X4_settle X hX _ (by assumption) _ (by assumption) _ (by assumption) (by assumption)) (by decide +kernel : decode cX4_power 29 = .ok (.invokevirtual 144, 3)) (by decide) rfl rfl rfl rfl jok38 (Nat.le_of_ble_eq_true rfl) (fun v29 m29 h29 => ?_)
  obtain ⟨rfl, e29⟩ := h29
  have cw : CW m u (powN (m s) (selv (m s)) e) m29 := CW_set (by assumption) q24 hn h0 r24 e29
  have hcn : cnt (m24 16) = cnt (powN (m s) (selv (m s)) e) := cnt_congr r24
  rw [hcn]
  refine g_ireturn hF hQ (by decide +kernel : decode cX4_power 32 = .ok (.ireturn, 1)) ?_
  exact ⟨rfl, cw⟩
set_option maxHeartbeats 4000000 in
set_option maxRecDepth 100000 in
theorem c_X4_isInto (X : jX) (hX : jxok X) (s : Nat) (hs : s < 8) (m : jM) (hC : CI m) : Con X yX4_isInto cX4_isInto 2 (some .boolean) 12 [vR 2 38, vI s] m (fun o m' => o = some (vI (bI (inside (m s)))) ∧ CQ m m') := by
  refine Con.of hX (by decide) (Nat.le_of_ble_eq_true rfl) (fun F hF hQ => ?_)
  have hr := (hC.1 s (by omega)).1
  have hct := (hC.1 s (by omega)).2
  refine g_iload_n hF (by decide +kernel : decode cX4_isInto 0 = .ok (.iload_n 1, 1)) rfl ?_
  refine g_callS hF lkX4_51 (c_X4_checkSlot X hX _ (by omega) (by omega) _) (by decide +kernel : decode cX4_isInto 1 = .ok (.invokestatic 51, 3)) (by decide) rfl rfl (Nat.le_of_ble_eq_true rfl) (fun v1 m1 h1 => ?_)
  obtain ⟨rfl, e1⟩ := h1
  obtain rfl := e1.symm
  refine g_aload_n hF (by decide +kernel : decode cX4_isInto 4 = .ok (.aload_n 0, 1)) rfl ?_
  refine g_getC hF lkX4_11 (by decide +kernel : decode cX4_isInto 5 = .ok (.getfield 11, 3)) jok38 rfl rfl ?_
  refine g_iload_n hF (by decide +kernel : decode cX4_isInto 8 = .ok (.iload_n 1, 1)) rfl ?_
  refine g_aaload_39 hF (by decide +kernel : decode cX4_isInto 9 = .ok (.aaload, 1)) (rfl) hs ?_
  refine g_callV hF lkX4_172 (c_X2_staysInside X hX _ (show s < 19 by omega) _ (by assumption)) (by decide +kernel : decode cX4_isInto 10 = .ok (.invokevirtual 172, 3)) (by decide) rfl rfl rfl rfl (show s < 19 by omega) (Nat.le_of_ble_eq_true rfl) (fun v10 m10 h10 => ?_)
  obtain ⟨rfl, e10⟩ := h10
  obtain rfl := e10.symm
  refine g_zreturn hF hQ (by decide +kernel : decode cX4_isInto 13 = .ok (.ireturn, 1)) (bI_c _) ?_
  exact ⟨rfl, CQ_rfl hC⟩
set_option maxHeartbeats 4000000 in
set_option maxRecDepth 100000 in
theorem c_X4_fixed (X : jX) (hX : jxok X) (s : Nat) (hs : s < 8) (m : jM) (hC : CI m) : Con X yX4_fixed cX4_fixed 2 (some .int) 12 [vR 2 38, vI s] m (fun o m' => o = some (vI (selfN (m s))) ∧ CQ m m') := by
  refine Con.of hX (by decide) (Nat.le_of_ble_eq_true rfl) (fun F hF hQ => ?_)
  have hr := (hC.1 s (by omega)).1
  have hct := (hC.1 s (by omega)).2
  refine g_iload_n hF (by decide +kernel : decode cX4_fixed 0 = .ok (.iload_n 1, 1)) rfl ?_
  refine g_callS hF lkX4_51 (c_X4_checkSlot X hX _ (by omega) (by omega) _) (by decide +kernel : decode cX4_fixed 1 = .ok (.invokestatic 51, 3)) (by decide) rfl rfl (Nat.le_of_ble_eq_true rfl) (fun v1 m1 h1 => ?_)
  obtain ⟨rfl, e1⟩ := h1
  obtain rfl := e1.symm
  refine g_aload_n hF (by decide +kernel : decode cX4_fixed 4 = .ok (.aload_n 0, 1)) rfl ?_
  refine g_getC hF lkX4_11 (by decide +kernel : decode cX4_fixed 5 = .ok (.getfield 11, 3)) jok38 rfl rfl ?_
  refine g_iload_n hF (by decide +kernel : decode cX4_fixed 8 = .ok (.iload_n 1, 1)) rfl ?_
  refine g_aaload_39 hF (by decide +kernel : decode cX4_fixed 9 = .ok (.aaload, 1)) (rfl) hs ?_
  refine g_callV hF lkX4_176 (c_X2_selves X hX _ (show s < 19 by omega) _ hr) (by decide +kernel : decode cX4_fixed 10 = .ok (.invokevirtual 176, 3)) (by decide) rfl rfl rfl rfl (show s < 19 by omega) (Nat.le_of_ble_eq_true rfl) (fun v10 m10 h10 => ?_)
  obtain ⟨rfl, e10⟩ := h10
  obtain rfl := e10.symm
  refine g_ireturn hF hQ (by decide +kernel : decode cX4_fixed 13 = .ok (.ireturn, 1)) ?_
  exact ⟨rfl, CQ_rfl hC⟩
set_option maxHeartbeats 4000000 in
set_option maxRecDepth 100000 in
theorem c_X4_steps (X : jX) (hX : jxok X) (s : Nat) (hs : s < 8) (k : Int) (hk : num k) (m : jM) (hC : CI m) (h : ¬ tat (m s) k = -2) : Con X yX4_steps cX4_steps 3 (some .int) 12 [vR 2 38, vI s, vI k] m (fun o m' => o = some (vI (per (m s) k)) ∧ CQ m m') := by
  refine Con.of hX (by decide) (Nat.le_of_ble_eq_true rfl) (fun F hF hQ => ?_)
  have hr := (hC.1 s (by omega)).1
  have hct := (hC.1 s (by omega)).2
  have hk2 : -1 ≤ k ∧ k ≤ 255 := hk
  refine g_aload_n hF (by decide +kernel : decode cX4_steps 0 = .ok (.aload_n 0, 1)) rfl ?_
  refine g_iload_n hF (by decide +kernel : decode cX4_steps 1 = .ok (.iload_n 1, 1)) rfl ?_
  refine g_iload_n hF (by decide +kernel : decode cX4_steps 2 = .ok (.iload_n 2, 1)) rfl ?_
  refine g_callV hF lkX4_179 (c_X4_walkFrom X hX _ hs _ (by omega) _ hC hk h) (by decide +kernel : decode cX4_steps 3 = .ok (.invokevirtual 179, 3)) (by decide) rfl rfl rfl rfl jok38 (Nat.le_of_ble_eq_true rfl) (fun v3 m3 h3 => ?_)
  obtain ⟨rfl, e3⟩ := h3
  have q3 := wk_CQ hC e3
  have l3 := wk_len e3
  refine g_aload_n hF (by decide +kernel : decode cX4_steps 6 = .ok (.aload_n 0, 1)) rfl ?_
  refine g_getC hF lkX4_32 (by decide +kernel : decode cX4_steps 7 = .ok (.getfield 32, 3)) jok38 rfl rfl ?_
  refine g_getC hF lkX4_182 (by decide +kernel : decode cX4_steps 10 = .ok (.getfield 182, 3)) jok48 rfl rfl ?_
  refine g_ireturn hF hQ (by decide +kernel : decode cX4_steps 13 = .ok (.ireturn, 1)) ?_
  exact ⟨by rw [l3], q3⟩
set_option maxHeartbeats 4000000 in
set_option maxRecDepth 100000 in
theorem c_X4_ring (X : jX) (hX : jxok X) (s : Nat) (hs : s < 8) (k : Int) (hk : num k) (m : jM) (hC : CI m) (h : ¬ tat (m s) k = -2) : Con X yX4_ring cX4_ring 3 (some .int) 12 [vR 2 38, vI s, vI k] m (fun o m' => o = some (vI (ringV (m s) k)) ∧ CQ m m') := by
  refine Con.of hX (by decide) (Nat.le_of_ble_eq_true rfl) (fun F hF hQ => ?_)
  have hr := (hC.1 s (by omega)).1
  have hct := (hC.1 s (by omega)).2
  have hk2 : -1 ≤ k ∧ k ≤ 255 := hk
  refine g_aload_n hF (by decide +kernel : decode cX4_ring 0 = .ok (.aload_n 0, 1)) rfl ?_
  refine g_iload_n hF (by decide +kernel : decode cX4_ring 1 = .ok (.iload_n 1, 1)) rfl ?_
  refine g_iload_n hF (by decide +kernel : decode cX4_ring 2 = .ok (.iload_n 2, 1)) rfl ?_
  refine g_callV hF lkX4_179 (c_X4_walkFrom X hX _ hs _ (by omega) _ hC hk h) (by decide +kernel : decode cX4_ring 3 = .ok (.invokevirtual 179, 3)) (by decide) rfl rfl rfl rfl jok38 (Nat.le_of_ble_eq_true rfl) (fun v3 m3 h3 => ?_)
  obtain ⟨rfl, e3⟩ := h3
  have q3 := wk_CQ hC e3
  have l3 := wk_len e3
  refine g_aload_n hF (by decide +kernel : decode cX4_ring 6 = .ok (.aload_n 0, 1)) rfl ?_
  refine g_getC hF lkX4_32 (by decide +kernel : decode cX4_ring 7 = .ok (.getfield 32, 3)) jok38 rfl rfl ?_
  refine g_callV hF lkX4_185 (c_X3_ringLength X hX _ (by rw [wk_marks e3]; exact wkN_ain ain_0 _ (per_b _ _)) (by rw [wk_end e3, wkN_1]; have := nd_b hr hk (per (m s) k); omega) (by rw [wk_key e3]; by_cases e : tat (m s) (wkN (m s) k (fun _ => 0) (per (m s) k)).1 = -2; { rw [if_pos e]; exact Or.inl rfl }; { rw [if_neg e]; exact Or.inr rfl })) (by decide +kernel : decode cX4_ring 10 = .ok (.invokevirtual 185, 3)) (by decide) rfl rfl rfl rfl jok48 (Nat.le_of_ble_eq_true rfl) (fun v10 m10 h10 => ?_)
  obtain ⟨rfl, e10⟩ := h10
  obtain rfl := e10.symm
  refine g_ireturn hF hQ (by decide +kernel : decode cX4_ring 13 = .ok (.ireturn, 1)) ?_
  exact ⟨by rw [ring_eq l3 (wk_end e3) (wk_key e3), wk_marks e3]; rfl, q3⟩
set_option maxHeartbeats 4000000 in
set_option maxRecDepth 100000 in
theorem c_X4_order (X : jX) (hX : jxok X) (s : Nat) (hs : s < 8) (m : jM) (hC : CI m) (hi : inside (m s)) (ho : once (m s)) : Con X yX4_order cX4_order 2 (some .long) 12 [vR 2 38, vI s] m (fun o m' => o = some (vL ((lcmN (m s) 257 : Nat) : Int)) ∧ CQ m m') := by
  refine Con.of hX (by decide) (Nat.le_of_ble_eq_true rfl) (fun F hF hQ => ?_)
  have hr := (hC.1 s (by omega)).1
  have hct := (hC.1 s (by omega)).2
  have hk := (kinds_once hr).mpr ho
  have hts := hC.1 s (by omega)
  have hbi := bI_c (inside (m s))
  refine g_iload_n hF (by decide +kernel : decode cX4_order 0 = .ok (.iload_n 1, 1)) rfl ?_
  refine g_callS hF lkX4_51 (c_X4_checkSlot X hX _ (by omega) (by omega) _) (by decide +kernel : decode cX4_order 1 = .ok (.invokestatic 51, 3)) (by decide) rfl rfl (Nat.le_of_ble_eq_true rfl) (fun v1 m1 h1 => ?_)
  obtain ⟨rfl, e1⟩ := h1
  obtain rfl := e1.symm
  refine g_aload_n hF (by decide +kernel : decode cX4_order 4 = .ok (.aload_n 0, 1)) rfl ?_
  refine g_getC hF lkX4_11 (by decide +kernel : decode cX4_order 5 = .ok (.getfield 11, 3)) jok38 rfl rfl ?_
  refine g_iload_n hF (by decide +kernel : decode cX4_order 8 = .ok (.iload_n 1, 1)) rfl ?_
  refine g_aaload_39 hF (by decide +kernel : decode cX4_order 9 = .ok (.aaload, 1)) (rfl) hs ?_
  refine g_callV hF lkX4_172 (c_X2_staysInside X hX _ (show s < 19 by omega) _ (by assumption)) (by decide +kernel : decode cX4_order 10 = .ok (.invokevirtual 172, 3)) (by decide) rfl rfl rfl rfl (show s < 19 by omega) (Nat.le_of_ble_eq_true rfl) (fun v10 m10 h10 => ?_)
  obtain ⟨rfl, e10⟩ := h10
  obtain rfl := e10.symm
  refine g_if_ne hF (tgt := 26) (by decide +kernel : decode cX4_order 13 = .ok (.ifCond .ne 13, 3)) (by decide) (by omega) (fun c13 => ?_) (fun c13 => ?_)
  · skip
    refine g_aload_n hF (by decide +kernel : decode cX4_order 26 = .ok (.aload_n 0, 1)) rfl ?_
    refine g_aload_n hF (by decide +kernel : decode cX4_order 27 = .ok (.aload_n 0, 1)) rfl ?_
    refine g_getC hF lkX4_11 (by decide +kernel : decode cX4_order 28 = .ok (.getfield 11, 3)) jok38 rfl rfl ?_
    refine g_iload_n hF (by decide +kernel : decode cX4_order 31 = .ok (.iload_n 1, 1)) rfl ?_
    refine g_aaload_39 hF (by decide +kernel : decode cX4_order 32 = .ok (.aaload, 1)) (rfl) hs ?_
    refine g_callV hF lkX4_162 (c_X4_checkTurns X hX _ (show s < 19 by omega) _ (by assumption) (by assumption)) (by decide +kernel : decode cX4_order 33 = .ok (.invokevirtual 162, 3)) (by decide) rfl rfl rfl rfl jok38 (Nat.le_of_ble_eq_true rfl) (fun v33 m33 h33 => ?_)
    obtain ⟨rfl, G33, e33⟩ := h33
    have q33 : CQ m m33 := by rw [e33]; exact CQ_row hC (by unfold garb; omega) (by omega) G33
    have s33 : m33 s = m s := by rw [e33]; exact mrow_ne (by omega)
    refine g_aload_n hF (by decide +kernel : decode cX4_order 36 = .ok (.aload_n 0, 1)) rfl ?_
    refine g_aload_n hF (by decide +kernel : decode cX4_order 37 = .ok (.aload_n 0, 1)) rfl ?_
    refine g_getC hF lkX4_11 (by decide +kernel : decode cX4_order 38 = .ok (.getfield 11, 3)) jok38 rfl rfl ?_
    refine g_iload_n hF (by decide +kernel : decode cX4_order 41 = .ok (.iload_n 1, 1)) rfl ?_
    refine g_aaload_39 hF (by decide +kernel : decode cX4_order 42 = .ok (.aaload, 1)) (rfl) hs ?_
    refine g_callV hF lkX4_193 (c_X4_leastCommonLength X hX _ hs _ q33.1 (by rw [s33]; exact ⟨hr, once_inj hr ho, hi⟩)) (by decide +kernel : decode cX4_order 43 = .ok (.invokevirtual 193, 3)) (by decide) rfl rfl rfl rfl jok38 (Nat.le_of_ble_eq_true rfl) (fun v43 m43 h43 => ?_)
    obtain ⟨rfl, q43⟩ := h43
    rw [s33]
    refine g_lreturn hF hQ (by decide +kernel : decode cX4_order 46 = .ok (.lreturn, 1)) ?_
    exact ⟨rfl, CQ_trans q33 q43⟩
  · skip
    rw [bI_t hi] at c13
    exact absurd c13 (by decide)
set_option maxHeartbeats 4000000 in
set_option maxRecDepth 100000 in
theorem c_X4_say (X : jX) (hX : jxok X) (k v : Int) (hk : num k) (hv : num v) (w : Nat) (m : jM) (hC : CI m) (hw : rwok m w) (hf : w < 60) : Con X yX4_say cX4_say 3 (some .int) 12 [vR 2 38, vI k, vI v] m (fun o m' => o = some (vI (w + 1)) ∧ CR m (w + 1) (fun z => if z = w then k else m 41 z) (fun z => if z = w then v else m 42 z) m') := by
  refine Con.of hX (by decide) (Nat.le_of_ble_eq_true rfl) (fun F hF hQ => ?_)
  unfold num at hk hv
  refine g_iload_n hF (by decide +kernel : decode cX4_say 0 = .ok (.iload_n 1, 1)) rfl ?_
  refine g_callS hF lkX4_55 (c_X4_checkNumber X hX _ (by omega) (by unfold num; omega) _) (by decide +kernel : decode cX4_say 1 = .ok (.invokestatic 55, 3)) (by decide) rfl rfl (Nat.le_of_ble_eq_true rfl) (fun v1 m1 h1 => ?_)
  obtain ⟨rfl, e1⟩ := h1
  obtain rfl := e1.symm
  refine g_iload_n hF (by decide +kernel : decode cX4_say 4 = .ok (.iload_n 2, 1)) rfl ?_
  refine g_callS hF lkX4_55 (c_X4_checkNumber X hX _ (by omega) (by unfold num; omega) _) (by decide +kernel : decode cX4_say 5 = .ok (.invokestatic 55, 3)) (by decide) rfl rfl (Nat.le_of_ble_eq_true rfl) (fun v5 m5 h5 => ?_)
  obtain ⟨rfl, e5⟩ := h5
  obtain rfl := e5.symm
  refine g_aload_n hF (by decide +kernel : decode cX4_say 8 = .ok (.aload_n 0, 1)) rfl ?_
  refine g_callV hF lkX4_197 (c_X4_checkWordFits X hX _ _ (by assumption) (by omega)) (by decide +kernel : decode cX4_say 9 = .ok (.invokevirtual 197, 3)) (by decide) rfl rfl rfl rfl jok38 (Nat.le_of_ble_eq_true rfl) (fun v9 m9 h9 => ?_)
  obtain ⟨rfl, e9⟩ := h9
  obtain rfl := e9.symm
  refine g_aload_n hF (by decide +kernel : decode cX4_say 12 = .ok (.aload_n 0, 1)) rfl ?_
  refine g_getC hF lkX4_18 (by decide +kernel : decode cX4_say 13 = .ok (.getfield 18, 3)) jok38 rfl rfl ?_
  refine g_iload_n hF (by decide +kernel : decode cX4_say 16 = .ok (.iload_n 1, 1)) rfl ?_
  refine g_iload_n hF (by decide +kernel : decode cX4_say 17 = .ok (.iload_n 2, 1)) rfl ?_
  refine g_callV hF lkX4_200 (c_X1_append X hX _ _ _ _ (by assumption) (by omega)) (by decide +kernel : decode cX4_say 18 = .ok (.invokevirtual 200, 3)) (by decide) rfl rfl rfl rfl jok40 (Nat.le_of_ble_eq_true rfl) (fun v18 m18 h18 => ?_)
  obtain ⟨rfl, e18⟩ := h18
  have f18 : m18 40 0 = w + 1 := by rw [e18, mset_at]
  have o18 : ∀ j : Nat, j ≠ 40 → j ≠ 41 → j ≠ 42 → m18 j = m j := fun j a b c => by rw [e18, mset_ne a, mset_ne c, mset_ne b]
  have k18 : ∀ z : Int, m18 41 z = if z = w then k else m 41 z := fun z => by
    rw [e18, mset_ne (by decide), mset_ne (by decide)]
    by_cases e : z = w
    · rw [if_pos e, e, mset_at]
    · rw [if_neg e, mset_off e]
  have l18 : ∀ z : Int, m18 42 z = if z = w then v else m 42 z := fun z => by
    rw [e18, mset_ne (by decide)]
    by_cases e : z = w
    · rw [if_pos e, e, mset_at, ]
    · rw [if_neg e, mset_off e, mset_ne (by decide)]
  have cr : CR m (w + 1) (fun z => if z = w then k else m 41 z) (fun z => if z = w then v else m 42 z) m18 := CR_of hC (by omega) (fun j a b c d => o18 j b c d) (fun j hj => o18 j (by omega) (by omega) (by omega)) (by rw [f18]; omega) (fun z a b => ⟨k18 z, l18 z⟩) (fun z a b => by
    show (-1 ≤ (if z = w then k else m 41 z) ∧ (if z = w then k else m 41 z) ≤ 255) ∧ (-2 ≤ (if z = w then v else m 42 z) ∧ (if z = w then v else m 42 z) ≤ 255)
    by_cases e : z = w
    · rw [if_pos e, if_pos e]; omega
    · rw [if_neg e, if_neg e]; exact hw.2.2 z a (by omega))
  refine g_aload_n hF (by decide +kernel : decode cX4_say 21 = .ok (.aload_n 0, 1)) rfl ?_
  refine g_getC hF lkX4_18 (by decide +kernel : decode cX4_say 22 = .ok (.getfield 18, 3)) jok38 rfl rfl ?_
  refine g_getC hF lkX4_203 (by decide +kernel : decode cX4_say 25 = .ok (.getfield 203, 3)) jok40 rfl rfl ?_
  refine g_ireturn hF hQ (by decide +kernel : decode cX4_say 28 = .ok (.ireturn, 1)) ?_
  exact ⟨by rw [f18], cr⟩
set_option maxHeartbeats 4000000 in
set_option maxRecDepth 100000 in
theorem c_X4_unsay (X : jX) (hX : jxok X) (k : Int) (hk : num k) (w : Nat) (m : jM) (hC : CI m) (hw : rwok m w) (hf : w < 60) : Con X yX4_unsay cX4_unsay 2 (some .int) 12 [vR 2 38, vI k] m (fun o m' => o = some (vI (w + 1)) ∧ CR m (w + 1) (fun z => if z = w then k else m 41 z) (fun z => if z = w then (-2) else m 42 z) m') := by
  refine Con.of hX (by decide) (Nat.le_of_ble_eq_true rfl) (fun F hF hQ => ?_)
  unfold num at hk
  refine g_iload_n hF (by decide +kernel : decode cX4_unsay 0 = .ok (.iload_n 1, 1)) rfl ?_
  refine g_callS hF lkX4_55 (c_X4_checkNumber X hX _ (by omega) (by unfold num; omega) _) (by decide +kernel : decode cX4_unsay 1 = .ok (.invokestatic 55, 3)) (by decide) rfl rfl (Nat.le_of_ble_eq_true rfl) (fun v1 m1 h1 => ?_)
  obtain ⟨rfl, e1⟩ := h1
  obtain rfl := e1.symm
  refine g_aload_n hF (by decide +kernel : decode cX4_unsay 4 = .ok (.aload_n 0, 1)) rfl ?_
  refine g_callV hF lkX4_197 (c_X4_checkWordFits X hX _ _ (by assumption) (by omega)) (by decide +kernel : decode cX4_unsay 5 = .ok (.invokevirtual 197, 3)) (by decide) rfl rfl rfl rfl jok38 (Nat.le_of_ble_eq_true rfl) (fun v5 m5 h5 => ?_)
  obtain ⟨rfl, e5⟩ := h5
  obtain rfl := e5.symm
  refine g_aload_n hF (by decide +kernel : decode cX4_unsay 8 = .ok (.aload_n 0, 1)) rfl ?_
  refine g_getC hF lkX4_18 (by decide +kernel : decode cX4_unsay 9 = .ok (.getfield 18, 3)) jok38 rfl rfl ?_
  refine g_iload_n hF (by decide +kernel : decode cX4_unsay 12 = .ok (.iload_n 1, 1)) rfl ?_
  refine g_bipush hF (by decide +kernel : decode cX4_unsay 13 = .ok (.bipush (-2), 2)) (by decide) ?_
  refine g_callV hF lkX4_200 (c_X1_append X hX _ _ _ _ (by assumption) (by omega)) (by decide +kernel : decode cX4_unsay 15 = .ok (.invokevirtual 200, 3)) (by decide) rfl rfl rfl rfl jok40 (Nat.le_of_ble_eq_true rfl) (fun v15 m15 h15 => ?_)
  obtain ⟨rfl, e15⟩ := h15
  have f15 : m15 40 0 = w + 1 := by rw [e15, mset_at]
  have o15 : ∀ j : Nat, j ≠ 40 → j ≠ 41 → j ≠ 42 → m15 j = m j := fun j a b c => by rw [e15, mset_ne a, mset_ne c, mset_ne b]
  have k15 : ∀ z : Int, m15 41 z = if z = w then k else m 41 z := fun z => by
    rw [e15, mset_ne (by decide), mset_ne (by decide)]
    by_cases e : z = w
    · rw [if_pos e, e, mset_at]
    · rw [if_neg e, mset_off e]
  have l15 : ∀ z : Int, m15 42 z = if z = w then (-2) else m 42 z := fun z => by
    rw [e15, mset_ne (by decide)]
    by_cases e : z = w
    · rw [if_pos e, e, mset_at, ]
    · rw [if_neg e, mset_off e, mset_ne (by decide)]
  have cr : CR m (w + 1) (fun z => if z = w then k else m 41 z) (fun z => if z = w then (-2) else m 42 z) m15 := CR_of hC (by omega) (fun j a b c d => o15 j b c d) (fun j hj => o15 j (by omega) (by omega) (by omega)) (by rw [f15]; omega) (fun z a b => ⟨k15 z, l15 z⟩) (fun z a b => by
    show (-1 ≤ (if z = w then k else m 41 z) ∧ (if z = w then k else m 41 z) ≤ 255) ∧ (-2 ≤ (if z = w then (-2) else m 42 z) ∧ (if z = w then (-2) else m 42 z) ≤ 255)
    by_cases e : z = w
    · rw [if_pos e, if_pos e]; omega
    · rw [if_neg e, if_neg e]; exact hw.2.2 z a (by omega))
  refine g_aload_n hF (by decide +kernel : decode cX4_unsay 18 = .ok (.aload_n 0, 1)) rfl ?_
  refine g_getC hF lkX4_18 (by decide +kernel : decode cX4_unsay 19 = .ok (.getfield 18, 3)) jok38 rfl rfl ?_
  refine g_getC hF lkX4_203 (by decide +kernel : decode cX4_unsay 22 = .ok (.getfield 203, 3)) jok40 rfl rfl ?_
  refine g_ireturn hF hQ (by decide +kernel : decode cX4_unsay 25 = .ok (.ireturn, 1)) ?_
  exact ⟨by rw [f15], cr⟩
set_option maxHeartbeats 4000000 in
set_option maxRecDepth 100000 in
theorem c_X4_hush (X : jX) (hX : jxok X) (w : Nat) (m : jM) (hC : CI m) (hw : rwok m w) : Con X yX4_hush cX4_hush 2 (some .int) 12 [vR 2 38] m (fun o m' => o = some (vI w) ∧ CR m 0 (m 41) (m 42) m') := by
  refine Con.of hX (by decide) (Nat.le_of_ble_eq_true rfl) (fun F hF hQ => ?_)
  have hw0 := hw.1
  refine g_aload_n hF (by decide +kernel : decode cX4_hush 0 = .ok (.aload_n 0, 1)) rfl ?_
  refine g_getC hF lkX4_18 (by decide +kernel : decode cX4_hush 1 = .ok (.getfield 18, 3)) jok38 rfl rfl ?_
  refine g_getC hF lkX4_203 (by decide +kernel : decode cX4_hush 4 = .ok (.getfield 203, 3)) jok40 rfl rfl ?_
  refine g_istore_n hF (by decide +kernel : decode cX4_hush 7 = .ok (.istore_n 1, 1)) (by decide) ?_
  refine g_aload_n hF (by decide +kernel : decode cX4_hush 8 = .ok (.aload_n 0, 1)) rfl ?_
  refine g_getC hF lkX4_18 (by decide +kernel : decode cX4_hush 9 = .ok (.getfield 18, 3)) jok38 rfl rfl ?_
  refine g_iconst hF (by decide +kernel : decode cX4_hush 12 = .ok (.iconst 0, 1)) ?_
  refine g_putC hF lkPX4_203 (by decide +kernel : decode cX4_hush 13 = .ok (.putfield 203, 3)) jok40 rfl rfl (Or.inl rfl) ?_
  refine g_iload_n hF (by decide +kernel : decode cX4_hush 16 = .ok (.iload_n 1, 1)) rfl ?_
  refine g_ireturn hF hQ (by decide +kernel : decode cX4_hush 17 = .ok (.ireturn, 1)) ?_
  exact ⟨by rw [hw0], CR_of hC (by omega) (fun j a b c d => mset_ne b) (fun j hj => mset_ne (by omega)) (mset_at _ _ _ _) (fun z a b => absurd b (by omega)) (fun z a b => absurd b (by omega))⟩
set_option maxHeartbeats 4000000 in
set_option maxRecDepth 100000 in
theorem c_X4_stir (X : jX) (hX : jxok X) (s : Int) (hs : 1 ≤ s ∧ s ≤ 2147483646) (w : Nat) (m : jM) (hC : CI m) (hw : rwok m w) : Con X yX4_stir cX4_stir 2 (some .int) 12 [vR 2 38, vI s] m (fun o m' => o = some (vI (stirN w s (m 41) (m 42) w).2.2.2) ∧ CR m w (stirN w s (m 41) (m 42) w).2.1 (stirN w s (m 41) (m 42) w).2.2.1 m') := by
  refine Con.of hX (by decide) (Nat.le_of_ble_eq_true rfl) (fun F hF hQ => ?_)
  refine g_iload_n hF (by decide +kernel : decode cX4_stir 0 = .ok (.iload_n 1, 1)) rfl ?_
  refine g_iconst hF (by decide +kernel : decode cX4_stir 1 = .ok (.iconst 1, 1)) ?_
  refine g_ldc hF kiX4_204 (by decide +kernel : decode cX4_stir 2 = .ok (.ldc 204, 2)) ?_
  refine g_callS hF lkX4_70 (c_X4_checkRange X hX _ _ _ (by omega) (by omega) (by omega) (by omega) _) (by decide +kernel : decode cX4_stir 4 = .ok (.invokestatic 70, 3)) (by decide) rfl rfl (Nat.le_of_ble_eq_true rfl) (fun v4 m4 h4 => ?_)
  obtain ⟨rfl, e4⟩ := h4
  obtain rfl := e4.symm
  refine g_aload_n hF (by decide +kernel : decode cX4_stir 7 = .ok (.aload_n 0, 1)) rfl ?_
  refine g_getC hF lkX4_18 (by decide +kernel : decode cX4_stir 8 = .ok (.getfield 18, 3)) jok38 rfl rfl ?_
  refine g_iload_n hF (by decide +kernel : decode cX4_stir 11 = .ok (.iload_n 1, 1)) rfl ?_
  refine g_callV hF lkX4_205 (c_X1_mix X hX _ (by omega) _ _ (by assumption)) (by decide +kernel : decode cX4_stir 12 = .ok (.invokevirtual 205, 3)) (by decide) rfl rfl rfl rfl jok40 (Nat.le_of_ble_eq_true rfl) (fun v12 m12 h12 => ?_)
  obtain ⟨rfl, e12⟩ := h12
  have hst := stirN_ok (w := w) (s := s) (K := m 41) (V := m 42) (by omega) (fun z a b => (hw.2.2 z a b).1) (fun z a b => (hw.2.2 z a b).2) w (Nat.le_refl _)
  have o12 : ∀ j : Nat, j ≠ 41 → j ≠ 42 → m12 j = m j := fun j a b => by rw [e12, mrow_ne b, mrow_ne a]
  have cr : CR m w (stirN w s (m 41) (m 42) w).2.1 (stirN w s (m 41) (m 42) w).2.2.1 m12 := CR_of hC hw.2.1 (fun j a b c d => o12 j c d) (fun j hj => o12 j (by omega) (by omega)) (by rw [o12 40 (by decide) (by decide)]; exact hw.1) (fun z a b => ⟨by rw [e12, mrow_ne (by decide), mrow_at], by rw [e12, mrow_at]⟩) (fun z a b => ⟨hst.2.1 z a b, hst.2.2 z a b⟩)
  refine g_ireturn hF hQ (by decide +kernel : decode cX4_stir 15 = .ok (.ireturn, 1)) ?_
  exact ⟨rfl, cr⟩
set_option maxHeartbeats 4000000 in
set_option maxRecDepth 100000 in
theorem c_X4_play (X : jX) (hX : jxok X) (u : Nat) (hu : u < 8) (w : Nat) (m : jM) (hC : CI m) (hw : rwok m w) : Con X yX4_play cX4_play 2 (some .int) 12 [vR 2 38, vI u] m (fun o m' => o = some (vI (cnt (playN (m 41) (m 42) w))) ∧ CW m u (playN (m 41) (m 42) w) m') := by
  refine Con.of hX (by decide) (Nat.le_of_ble_eq_true rfl) (fun F hF hQ => ?_)
  obtain ⟨nx, hn, h0⟩ := hC.2.2.1
  have hpo : rowok (playN (m 41) (m 42) w) := playN_ok w (fun z a b => (hw.2.2 z a b).2)
  refine g_iload_n hF (by decide +kernel : decode cX4_play 0 = .ok (.iload_n 1, 1)) rfl ?_
  refine g_callS hF lkX4_51 (c_X4_checkSlot X hX _ (by omega) (by omega) _) (by decide +kernel : decode cX4_play 1 = .ok (.invokestatic 51, 3)) (by decide) rfl rfl (Nat.le_of_ble_eq_true rfl) (fun v1 m1 h1 => ?_)
  obtain ⟨rfl, e1⟩ := h1
  obtain rfl := e1.symm
  refine g_aload_n hF (by decide +kernel : decode cX4_play 4 = .ok (.aload_n 0, 1)) rfl ?_
  refine g_getC hF lkX4_18 (by decide +kernel : decode cX4_play 5 = .ok (.getfield 18, 3)) jok38 rfl rfl ?_
  refine g_aload_n hF (by decide +kernel : decode cX4_play 8 = .ok (.aload_n 0, 1)) rfl ?_
  refine g_getC hF lkX4_37 (by decide +kernel : decode cX4_play 9 = .ok (.getfield 37, 3)) jok38 rfl rfl ?_
  refine g_callV hF lkX4_208 (c_X1_doAll X hX _ ht16 _ _ (by assumption)) (by decide +kernel : decode cX4_play 12 = .ok (.invokevirtual 208, 3)) (by decide) rfl rfl rfl rfl jok40 (Nat.le_of_ble_eq_true rfl) (fun v12 m12 h12 => ?_)
  obtain ⟨rfl, e12⟩ := h12
  have q12 : CQ m m12 := by rw [e12]; exact CQ_tset hC (by omega) (by omega) hpo
  have r12 : eqR (m12 16) (playN (m 41) (m 42) w) := by rw [e12, tset_at]; exact eqR_rfl _
  have C12 := q12.1
  have n12 : m12 45 0 = nx := by rw [q12.2 45 (by unfold garb; omega)]; exact h0
  refine g_aload_n hF (by decide +kernel : decode cX4_play 15 = .ok (.aload_n 0, 1)) rfl ?_
  refine g_iload_n hF (by decide +kernel : decode cX4_play 16 = .ok (.iload_n 1, 1)) rfl ?_
  refine g_callV hF lkX4_144 (c_X4_settle X hX _ (by assumption) _ (by assumption) _ (by assumption) (by assumption)) (by decide +kernel : decode cX4_play 17 = .ok (.invokevirtual 144, 3)) (by decide) rfl rfl rfl rfl jok38 (Nat.le_of_ble_eq_true rfl) (fun v17 m17 h17 => ?_)
  obtain ⟨rfl, e17⟩ := h17
  have cw : CW m u (playN (m 41) (m 42) w) m17 := CW_set (by assumption) q12 hn h0 r12 e17
  have hcn : cnt (m12 16) = cnt (playN (m 41) (m 42) w) := cnt_congr r12
  rw [hcn]
  refine g_ireturn hF hQ (by decide +kernel : decode cX4_play 20 = .ok (.ireturn, 1)) ?_
  exact ⟨rfl, cw⟩
set_option maxHeartbeats 4000000 in
set_option maxRecDepth 100000 in
theorem c_X4_playLast (X : jX) (hX : jxok X) (u : Nat) (hu : u < 8) (b : Int) (hb : jr b) (w : Nat) (m : jM) (hC : CI m) (hw : rwok m w) : Con X yX4_playLast cX4_playLast 3 (some .int) 12 [vR 2 38, vI u, vI b] m (fun o m' => o = some (vI (cnt (playN (m 41) (m 42) w))) ∧ CW m u (playN (m 41) (m 42) w) m') := by
  refine Con.of hX (by decide) (Nat.le_of_ble_eq_true rfl) (fun F hF hQ => ?_)
  obtain ⟨nx, hn, h0⟩ := hC.2.2.1
  have hpo : rowok (playN (m 41) (m 42) w) := playN_ok w (fun z a b => (hw.2.2 z a b).2)
  refine g_iload_n hF (by decide +kernel : decode cX4_playLast 0 = .ok (.iload_n 1, 1)) rfl ?_
  refine g_callS hF lkX4_51 (c_X4_checkSlot X hX _ (by omega) (by omega) _) (by decide +kernel : decode cX4_playLast 1 = .ok (.invokestatic 51, 3)) (by decide) rfl rfl (Nat.le_of_ble_eq_true rfl) (fun v1 m1 h1 => ?_)
  obtain ⟨rfl, e1⟩ := h1
  obtain rfl := e1.symm
  refine g_aload_n hF (by decide +kernel : decode cX4_playLast 4 = .ok (.aload_n 0, 1)) rfl ?_
  refine g_getC hF lkX4_18 (by decide +kernel : decode cX4_playLast 5 = .ok (.getfield 18, 3)) jok38 rfl rfl ?_
  refine g_aload_n hF (by decide +kernel : decode cX4_playLast 8 = .ok (.aload_n 0, 1)) rfl ?_
  refine g_getC hF lkX4_37 (by decide +kernel : decode cX4_playLast 9 = .ok (.getfield 37, 3)) jok38 rfl rfl ?_
  refine g_iload_n hF (by decide +kernel : decode cX4_playLast 12 = .ok (.iload_n 2, 1)) rfl ?_
  refine g_callV hF lkX4_211 (c_X1_doLast X hX _ ht16 _ (by omega) _ _ (by assumption)) (by decide +kernel : decode cX4_playLast 13 = .ok (.invokevirtual 211, 3)) (by decide) rfl rfl rfl rfl jok40 (Nat.le_of_ble_eq_true rfl) (fun v13 m13 h13 => ?_)
  obtain ⟨rfl, fr13, tk13, r13⟩ := h13
  have q13 : CQ m m13 := CQ_of hC (fun j hj => fr13 j (fun q => hj (by unfold garb; omega)) (fun q => hj (by unfold garb; omega)) (fun q => hj (by unfold garb; omega)) (fun q => hj (by unfold garb; omega))) (fun t t1 t2 => by
    by_cases e : t = 16
    · rw [e]; exact tk13
    · unfold tok; rw [fr13 t e (by omega) (by omega) (by omega), fr13 (19 + t) (by omega) (by omega) (by omega) (by omega)]; exact hC.1 t t2)
  have C13 := q13.1
  have n13 : m13 45 0 = nx := by rw [q13.2 45 (by unfold garb; omega)]; exact h0
  refine g_aload_n hF (by decide +kernel : decode cX4_playLast 16 = .ok (.aload_n 0, 1)) rfl ?_
  refine g_iload_n hF (by decide +kernel : decode cX4_playLast 17 = .ok (.iload_n 1, 1)) rfl ?_
  refine g_callV hF lkX4_144 (c_X4_settle X hX _ (by assumption) _ (by assumption) _ (by assumption) (by assumption)) (by decide +kernel : decode cX4_playLast 18 = .ok (.invokevirtual 144, 3)) (by decide) rfl rfl rfl rfl jok38 (Nat.le_of_ble_eq_true rfl) (fun v18 m18 h18 => ?_)
  obtain ⟨rfl, e18⟩ := h18
  have cw : CW m u (playN (m 41) (m 42) w) m18 := CW_set (by assumption) q13 hn h0 r13 e18
  have hcn : cnt (m13 16) = cnt (playN (m 41) (m 42) w) := cnt_congr r13
  rw [hcn]
  refine g_ireturn hF hQ (by decide +kernel : decode cX4_playLast 21 = .ok (.ireturn, 1)) ?_
  exact ⟨rfl, cw⟩
set_option maxHeartbeats 4000000 in
set_option maxRecDepth 100000 in
theorem c_X4_lastWords (X : jX) (hX : jxok X) (w : Nat) (m : jM) (hC : CI m) (hw : rwok m w) : Con X yX4_lastWords cX4_lastWords 1 (some .int) 12 [vR 2 38] m (fun o m' => o = some (vI (lastCount (m 41) w)) ∧ CQ m m') := by
  refine Con.of hX (by decide) (Nat.le_of_ble_eq_true rfl) (fun F hF hQ => ?_)
  refine g_aload_n hF (by decide +kernel : decode cX4_lastWords 0 = .ok (.aload_n 0, 1)) rfl ?_
  refine g_getC hF lkX4_18 (by decide +kernel : decode cX4_lastWords 1 = .ok (.getfield 18, 3)) jok38 rfl rfl ?_
  refine g_callV hF lkX4_215 (c_X1_countLast X hX _ _ (by assumption)) (by decide +kernel : decode cX4_lastWords 4 = .ok (.invokevirtual 215, 3)) (by decide) rfl rfl rfl rfl jok40 (Nat.le_of_ble_eq_true rfl) (fun v4 m4 h4 => ?_)
  obtain ⟨rfl, fr4⟩ := h4
  have q4 : CQ m m4 := CQ_of hC (fun j hj => fr4 j (fun q => hj (by unfold garb; omega))) (fun t t1 t2 => by unfold tok; rw [fr4 t (by omega), fr4 (19 + t) (by omega)]; exact hC.1 t t2)
  refine g_ireturn hF hQ (by decide +kernel : decode cX4_lastWords 7 = .ok (.ireturn, 1)) ?_
  exact ⟨rfl, q4⟩
set_option maxHeartbeats 4000000 in
set_option maxRecDepth 100000 in
theorem c_X4_undo (X : jX) (hX : jxok X) (m : jM) (hC : CI m) (hc : m 45 1 ≠ 0) : Con X yX4_undo cX4_undo 2 (some .int) 12 [vR 2 38] m (fun o m' => ∃ l s : Nat, o = some (vI s) ∧ CB m m' l s) := by
  refine Con.of hX (by decide) (Nat.le_of_ble_eq_true rfl) (fun F hF hQ => ?_)
  obtain ⟨nx, hn, h0⟩ := hC.2.2.1
  have hcb := hC.2.2.2.1
  have hl := tmod_b (a := m 45 0 + 8 - 1) (b := 8) (by omega) (by decide)
  obtain ⟨l, el⟩ : ∃ l : Nat, (m 45 0 + 8 - 1).tmod 8 = l := ⟨((m 45 0 + 8 - 1).tmod 8).toNat, by omega⟩
  have hsl := hC.2.2.2.2 l (by omega) (by omega)
  obtain ⟨s, es⟩ : ∃ s : Nat, m 47 l = s := ⟨(m 47 l).toNat, by omega⟩
  refine g_aload_n hF (by decide +kernel : decode cX4_undo 0 = .ok (.aload_n 0, 1)) rfl ?_
  refine g_getC hF lkX4_25 (by decide +kernel : decode cX4_undo 1 = .ok (.getfield 25, 3)) jok38 rfl rfl ?_
  refine g_getC hF lkX4_218 (by decide +kernel : decode cX4_undo 4 = .ok (.getfield 218, 3)) jok45 rfl rfl ?_
  refine g_if_ne hF (tgt := 20) (by decide +kernel : decode cX4_undo 7 = .ok (.ifCond .ne 13, 3)) (by decide) (by omega) (fun c7 => ?_) (fun c7 => ?_)
  · skip
    refine g_aload_n hF (by decide +kernel : decode cX4_undo 20 = .ok (.aload_n 0, 1)) rfl ?_
    refine g_getC hF lkX4_25 (by decide +kernel : decode cX4_undo 21 = .ok (.getfield 25, 3)) jok38 rfl rfl ?_
    refine g_callV hF lkX4_221 (c_X0_latestSlot X hX _ (by omega)) (by decide +kernel : decode cX4_undo 24 = .ok (.invokevirtual 221, 3)) (by decide) rfl rfl rfl rfl jok45 (Nat.le_of_ble_eq_true rfl) (fun v24 m24 h24 => ?_)
    obtain ⟨rfl, e24⟩ := h24
    obtain rfl := e24.symm
    rw [el, es]
    refine g_istore_n hF (by decide +kernel : decode cX4_undo 27 = .ok (.istore_n 1, 1)) (by decide) ?_
    refine g_aload_n hF (by decide +kernel : decode cX4_undo 28 = .ok (.aload_n 0, 1)) rfl ?_
    refine g_getC hF lkX4_25 (by decide +kernel : decode cX4_undo 29 = .ok (.getfield 25, 3)) jok38 rfl rfl ?_
    refine g_aload_n hF (by decide +kernel : decode cX4_undo 32 = .ok (.aload_n 0, 1)) rfl ?_
    refine g_getC hF lkX4_11 (by decide +kernel : decode cX4_undo 33 = .ok (.getfield 11, 3)) jok38 rfl rfl ?_
    refine g_iload_n hF (by decide +kernel : decode cX4_undo 36 = .ok (.iload_n 1, 1)) rfl ?_
    refine g_aaload_39 hF (by decide +kernel : decode cX4_undo 37 = .ok (.aaload, 1)) (rfl) (show s < 8 by omega) ?_
    refine g_callV hF lkX4_224 (c_X0_giveBack X hX _ (show s < 8 by omega) _ (show l < 8 by omega) _ (by omega) el hcb (hC.1 (8 + l) (by omega)).2) (by decide +kernel : decode cX4_undo 38 = .ok (.invokevirtual 224, 3)) (by decide) rfl rfl rfl rfl jok45 (Nat.le_of_ble_eq_true rfl) (fun v38 m38 h38 => ?_)
    obtain ⟨rfl, e38⟩ := h38
    refine g_iload_n hF (by decide +kernel : decode cX4_undo 41 = .ok (.iload_n 1, 1)) rfl ?_
    refine g_ireturn hF hQ (by decide +kernel : decode cX4_undo 42 = .ok (.ireturn, 1)) ?_
    exact ⟨l, s, rfl, by rw [e38]; exact CB_back hC (by omega) (by omega) el es hc⟩
  · skip
    exact absurd c7 hc
set_option maxHeartbeats 4000000 in
set_option maxRecDepth 100000 in
theorem c_X4_share (X : jX) (hX : jxok X) (s : Nat) (hs : s < 8) (m : jM) (hC : CI m) (hn : cnt (m s) ≠ 0) : Con X yX4_share cX4_share 3 (some .float) 12 [vR 2 38, vI s] m (fun o m' => o = some (vF (shrV (selfN (m s)) (cnt (m s)))) ∧ CQ m m') := by
  refine Con.of hX (by decide) (Nat.le_of_ble_eq_true rfl) (fun F hF hQ => ?_)
  have hr := (hC.1 s (by omega)).1
  have hct := (hC.1 s (by omega)).2
  have hcb := cnt_b (m s)
  refine g_iload_n hF (by decide +kernel : decode cX4_share 0 = .ok (.iload_n 1, 1)) rfl ?_
  refine g_callS hF lkX4_51 (c_X4_checkSlot X hX _ (by omega) (by omega) _) (by decide +kernel : decode cX4_share 1 = .ok (.invokestatic 51, 3)) (by decide) rfl rfl (Nat.le_of_ble_eq_true rfl) (fun v1 m1 h1 => ?_)
  obtain ⟨rfl, e1⟩ := h1
  obtain rfl := e1.symm
  refine g_aload_n hF (by decide +kernel : decode cX4_share 4 = .ok (.aload_n 0, 1)) rfl ?_
  refine g_getC hF lkX4_11 (by decide +kernel : decode cX4_share 5 = .ok (.getfield 11, 3)) jok38 rfl rfl ?_
  refine g_iload_n hF (by decide +kernel : decode cX4_share 8 = .ok (.iload_n 1, 1)) rfl ?_
  refine g_aaload_39 hF (by decide +kernel : decode cX4_share 9 = .ok (.aaload, 1)) (rfl) hs ?_
  refine g_tcnt hF lkX4_85 (by decide +kernel : decode cX4_share 10 = .ok (.getfield 85, 3)) (show s < 19 by omega) ?_
  rw [hct]
  refine g_istore_n hF (by decide +kernel : decode cX4_share 13 = .ok (.istore_n 2, 1)) (by decide) ?_
  refine g_iload_n hF (by decide +kernel : decode cX4_share 14 = .ok (.iload_n 2, 1)) rfl ?_
  refine g_if_ne hF (tgt := 28) (by decide +kernel : decode cX4_share 15 = .ok (.ifCond .ne 13, 3)) (by decide) (by omega) (fun c15 => ?_) (fun c15 => ?_)
  · skip
    refine g_aload_n hF (by decide +kernel : decode cX4_share 28 = .ok (.aload_n 0, 1)) rfl ?_
    refine g_getC hF lkX4_11 (by decide +kernel : decode cX4_share 29 = .ok (.getfield 11, 3)) jok38 rfl rfl ?_
    refine g_iload_n hF (by decide +kernel : decode cX4_share 32 = .ok (.iload_n 1, 1)) rfl ?_
    refine g_aaload_39 hF (by decide +kernel : decode cX4_share 33 = .ok (.aaload, 1)) (rfl) hs ?_
    refine g_callV hF lkX4_176 (c_X2_selves X hX _ (show s < 19 by omega) _ hr) (by decide +kernel : decode cX4_share 34 = .ok (.invokevirtual 176, 3)) (by decide) rfl rfl rfl rfl (show s < 19 by omega) (Nat.le_of_ble_eq_true rfl) (fun v34 m34 h34 => ?_)
    obtain ⟨rfl, e34⟩ := h34
    obtain rfl := e34.symm
    refine g_i2f hF (by decide +kernel : decode cX4_share 37 = .ok (.i2f, 1)) ?_
    refine g_iload_n hF (by decide +kernel : decode cX4_share 38 = .ok (.iload_n 2, 1)) rfl ?_
    refine g_i2f hF (by decide +kernel : decode cX4_share 39 = .ok (.i2f, 1)) ?_
    refine g_fdiv hF (by decide +kernel : decode cX4_share 40 = .ok (.fdiv, 1)) (shr_n (by omega)) ?_
    refine g_freturn hF hQ (by decide +kernel : decode cX4_share 41 = .ok (.freturn, 1)) ?_
    exact ⟨rfl, CQ_rfl hC⟩
  · skip
    exact absurd c15 hn
set_option maxHeartbeats 4000000 in
set_option maxRecDepth 100000 in
theorem c_X4_meanSize (X : jX) (hX : jxok X) (m : jM) (hC : CI m) : Con X yX4_meanSize cX4_meanSize 3 (some .double) 12 [vR 2 38] m (fun o m' => o = some (vD (meanV (sizeA m 8))) ∧ CQ m m') := by
  refine Con.of hX (by decide) (Nat.le_of_ble_eq_true rfl) (fun F hF hQ => ?_)
  refine g_iconst hF (by decide +kernel : decode cX4_meanSize 0 = .ok (.iconst 0, 1)) ?_
  refine g_istore_n hF (by decide +kernel : decode cX4_meanSize 1 = .ok (.istore_n 1, 1)) (by decide) ?_
  refine g_iconst hF (by decide +kernel : decode cX4_meanSize 2 = .ok (.iconst 0, 1)) ?_
  refine g_istore_n hF (by decide +kernel : decode cX4_meanSize 3 = .ok (.istore_n 2, 1)) (by decide) ?_
  have loop : ∀ (n s : Nat) (a : Int), s ≤ 8 → 9 ≤ s + n → a = sizeA m s → jG F X m 4 [(0, vR 2 38), (1, vI a), (2, vI s)] [] := by
    intro n
    induction n with
    | zero => intro s a h1 h2; exact absurd h2 (by omega)
    | succ n ih =>
      intro s a h1 h2 ha
      refine g_iload_n hF (by decide +kernel : decode cX4_meanSize 4 = .ok (.iload_n 2, 1)) rfl ?_
      refine g_bipush hF (by decide +kernel : decode cX4_meanSize 5 = .ok (.bipush 8, 2)) (by decide) ?_
      refine g_icmp_ge hF (tgt := 28) (by decide +kernel : decode cX4_meanSize 7 = .ok (.if_icmp .ge 21, 3)) (by decide) (by omega) (by omega) (fun c7 => ?_) (fun c7 => ?_)
      · skip
        refine g_iload_n hF (by decide +kernel : decode cX4_meanSize 28 = .ok (.iload_n 1, 1)) rfl ?_
        refine g_i2d hF (by decide +kernel : decode cX4_meanSize 29 = .ok (.i2d, 1)) ?_
        refine g_ldc2d hF kdX4_232 (by decide +kernel : decode cX4_meanSize 30 = .ok (.ldc2_w 232, 3)) ?_
        refine g_ddiv hF (by decide +kernel : decode cX4_meanSize 33 = .ok (.ddiv, 1)) (mean_n _) ?_
        refine g_dreturn hF hQ (by decide +kernel : decode cX4_meanSize 34 = .ok (.dreturn, 1)) ?_
        exact ⟨by rw [ha, show s = 8 by omega], CQ_rfl hC⟩
      · skip
        refine g_iload_n hF (by decide +kernel : decode cX4_meanSize 10 = .ok (.iload_n 1, 1)) rfl ?_
        refine g_aload_n hF (by decide +kernel : decode cX4_meanSize 11 = .ok (.aload_n 0, 1)) rfl ?_
        refine g_getC hF lkX4_11 (by decide +kernel : decode cX4_meanSize 12 = .ok (.getfield 11, 3)) jok38 rfl rfl ?_
        refine g_iload_n hF (by decide +kernel : decode cX4_meanSize 15 = .ok (.iload_n 2, 1)) rfl ?_
        refine g_aaload_39 hF (by decide +kernel : decode cX4_meanSize 16 = .ok (.aaload, 1)) (rfl) (show s < 8 by omega) ?_
        refine g_tcnt hF lkX4_85 (by decide +kernel : decode cX4_meanSize 17 = .ok (.getfield 85, 3)) (show s < 19 by omega) ?_
        refine g_iadd hF (by decide +kernel : decode cX4_meanSize 20 = .ok (.iadd, 1)) ?_
        refine g_istore_n hF (by decide +kernel : decode cX4_meanSize 21 = .ok (.istore_n 1, 1)) (by decide) ?_
        refine g_iinc hF (by decide +kernel : decode cX4_meanSize 22 = .ok (.iinc 2 1, 3)) rfl (by decide) ?_
        refine g_goto hF (tgt := 4) (by decide +kernel : decode cX4_meanSize 25 = .ok (.goto (-21), 3)) (by decide) ?_
        exact ih (s + 1) _ (by omega) (by omega) (by unfold sizeA at ha ⊢; rw [sumN_s, ← ha, Int.toNat_natCast, (hC.1 s (by omega)).2])
  exact loop 9 0 0 (by omega) (by omega) (sumN_0 _).symm
set_option maxHeartbeats 4000000 in
set_option maxRecDepth 100000 in
theorem c_X4_checksum (X : jX) (hX : jxok X) (w : Nat) (m : jM) (hC : CI m) (hw : rwok m w) : Con X yX4_checksum cX4_checksum 4 (some .long) 12 [vR 2 38] m (fun o m' => o = some (vL (ckR (m 41) (m 42) w (ckA m 8) w)) ∧ CQ m m') := by
  refine Con.of hX (by decide) (Nat.le_of_ble_eq_true rfl) (fun F hF hQ => ?_)
  refine g_ldc2 hF klX4_234 (by decide +kernel : decode cX4_checksum 0 = .ok (.ldc2_w 234, 3)) ?_
  refine g_lstore_n hF (by decide +kernel : decode cX4_checksum 3 = .ok (.lstore_n 1, 1)) (by decide) ?_
  refine g_iconst hF (by decide +kernel : decode cX4_checksum 4 = .ok (.iconst 0, 1)) ?_
  refine g_istore_n hF (by decide +kernel : decode cX4_checksum 5 = .ok (.istore_n 3, 1)) (by decide) ?_
  have loop : ∀ (n s : Nat) (a : Int), s ≤ 8 → 9 ≤ s + n → a = ckA m s → jG F X m 6 [(0, vR 2 38), (1, vL a), (3, vI s)] [] := by
    intro n
    induction n with
    | zero => intro s a h1 h2; exact absurd h2 (by omega)
    | succ n ih =>
      intro s a h1 h2 ha
      subst ha
      refine g_iload_n hF (by decide +kernel : decode cX4_checksum 6 = .ok (.iload_n 3, 1)) rfl ?_
      refine g_bipush hF (by decide +kernel : decode cX4_checksum 7 = .ok (.bipush 8, 2)) (by decide) ?_
      refine g_icmp_ge hF (tgt := 29) (by decide +kernel : decode cX4_checksum 9 = .ok (.if_icmp .ge 20, 3)) (by decide) (by omega) (by omega) (fun c9 => ?_) (fun c9 => ?_)
      · skip
        refine g_aload_n hF (by decide +kernel : decode cX4_checksum 29 = .ok (.aload_n 0, 1)) rfl ?_
        refine g_getC hF lkX4_18 (by decide +kernel : decode cX4_checksum 30 = .ok (.getfield 18, 3)) jok38 rfl rfl ?_
        refine g_lload_n hF (by decide +kernel : decode cX4_checksum 33 = .ok (.lload_n 1, 1)) rfl ?_
        refine g_callV hF lkX4_240 (c_X1_addTo X hX _ _ _ (by assumption)) (by decide +kernel : decode cX4_checksum 34 = .ok (.invokevirtual 240, 3)) (by decide) rfl rfl rfl rfl jok40 (Nat.le_of_ble_eq_true rfl) (fun v34 m34 h34 => ?_)
        obtain ⟨rfl, e34⟩ := h34
        obtain rfl := e34.symm
        refine g_lreturn hF hQ (by decide +kernel : decode cX4_checksum 37 = .ok (.lreturn, 1)) ?_
        exact ⟨by rw [show s = 8 by omega], CQ_rfl hC⟩
      · skip
        refine g_aload_n hF (by decide +kernel : decode cX4_checksum 12 = .ok (.aload_n 0, 1)) rfl ?_
        refine g_getC hF lkX4_11 (by decide +kernel : decode cX4_checksum 13 = .ok (.getfield 11, 3)) jok38 rfl rfl ?_
        refine g_iload_n hF (by decide +kernel : decode cX4_checksum 16 = .ok (.iload_n 3, 1)) rfl ?_
        refine g_aaload_39 hF (by decide +kernel : decode cX4_checksum 17 = .ok (.aaload, 1)) (rfl) (show s < 8 by omega) ?_
        refine g_lload_n hF (by decide +kernel : decode cX4_checksum 18 = .ok (.lload_n 1, 1)) rfl ?_
        refine g_callV hF lkX4_236 (c_X2_addTo X hX _ (show s < 19 by omega) _ _ (hC.1 s (by omega))) (by decide +kernel : decode cX4_checksum 19 = .ok (.invokevirtual 236, 3)) (by decide) rfl rfl rfl rfl (show s < 19 by omega) (Nat.le_of_ble_eq_true rfl) (fun v19 m19 h19 => ?_)
        obtain ⟨rfl, e19⟩ := h19
        obtain rfl := e19.symm
        refine g_lstore_n hF (by decide +kernel : decode cX4_checksum 22 = .ok (.lstore_n 1, 1)) (by decide) ?_
        refine g_iinc hF (by decide +kernel : decode cX4_checksum 23 = .ok (.iinc 3 1, 3)) rfl (by decide) ?_
        refine g_goto hF (tgt := 6) (by decide +kernel : decode cX4_checksum 26 = .ok (.goto (-20), 3)) (by decide) ?_
        exact ih (s + 1) _ (by omega) (by omega) (ckA_s m s).symm
  exact loop 9 0 7 (by omega) (by omega) (ckA_0 m).symm

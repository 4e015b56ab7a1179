set_option maxHeartbeats 4000000 in
set_option maxRecDepth 100000 in
theorem x_X4_checkTurns (X : jX) (hX : jxok X) (t : Nat) (ht : t < 19) (m : jM) (hm : tok m t) (h : ¬ kindsV (m t) = cnt (m t)) : ConXP X yX4_checkTurns cX4_checkTurns 2 none 9 [vR 2 38, vR 1 t] m (fun m' => ∃ G : Int → Int, m' = mrow m 50 G) "java/lang/UnsupportedOperationException" := by
  refine ConX.of hX (by decide) (Nat.le_of_ble_eq_true rfl) (fun F hF hQ => ?_)
  refine g_aload_n hF (by decide +kernel : decode cX4_checkTurns 0 = .ok (.aload_n 0, 1)) rfl ?_
  refine g_aload_n hF (by decide +kernel : decode cX4_checkTurns 1 = .ok (.aload_n 1, 1)) rfl ?_
  refine g_callV hF lkX4_267 (c_X4_canTurn X hX _ ht _ (by assumption)) (by decide +kernel : decode cX4_checkTurns 2 = .ok (.invokevirtual 267, 3)) (by decide) rfl rfl rfl rfl jok38 (Nat.le_of_ble_eq_true rfl) (fun v2 m2 h2 => ?_)
  obtain ⟨rfl, G2, e2⟩ := h2
  obtain rfl := e2.symm
  refine g_if_ne hF (tgt := 19) (by decide +kernel : decode cX4_checkTurns 5 = .ok (.ifCond .ne 14, 3)) (by decide) (by split <;> omega) (fun c5 => ?_) (fun c5 => ?_)
  · skip
    exact absurd (if_neg h) c5
  · skip
    exact g_throwW hF hQ th_uo (text := "a value stands for two keys") (by decide) (by decide +kernel : decode cX4_checkTurns 8 = .ok (.new 188, 3)) (by decide +kernel : decode cX4_checkTurns 11 = .ok (.dup, 1)) (by decide +kernel : decode cX4_checkTurns 12 = .ok (.ldc_w 270, 3)) (by decide +kernel : decode cX4_checkTurns 15 = .ok (.invokespecial 192, 3)) (by decide +kernel : decode cX4_checkTurns 18 = .ok (.athrow, 1)) (by decide) (by decide)
set_option maxHeartbeats 4000000 in
set_option maxRecDepth 100000 in
theorem xa_X4_walkFrom (X : jX) (hX : jxok X) (a : Int) (hj : jr a) (k : Int) (hk : jr k) (m : jM) (h : ¬ (0 ≤ a ∧ a < 8)) : ConX X yX4_walkFrom cX4_walkFrom 3 none 10 [vR 2 38, vI a, vI k] m "java/lang/IndexOutOfBoundsException" := by
  refine ConX.of hX (by decide) (Nat.le_of_ble_eq_true rfl) (fun F hF hQ => ?_)
  refine g_iload_n hF (by decide +kernel : decode cX4_walkFrom 0 = .ok (.iload_n 1, 1)) rfl ?_
  exact g_callXS hF hQ lkX4_51 (x_X4_checkSlot X hX _ hj h _) (by decide +kernel : decode cX4_walkFrom 1 = .ok (.invokestatic 51, 3)) (by decide) rfl rfl (Nat.le_of_ble_eq_true rfl) 
set_option maxHeartbeats 4000000 in
set_option maxRecDepth 100000 in
theorem xb_X4_walkFrom (X : jX) (hX : jxok X) (s : Nat) (hs : s < 8) (k : Int) (hk : jr k) (m : jM) (hC : CI m) (h : ¬ num k) : ConX X yX4_walkFrom cX4_walkFrom 3 none 11 [vR 2 38, vI s, vI k] m "java/lang/IllegalArgumentException" := by
  refine ConX.of hX (by decide) (Nat.le_of_ble_eq_true rfl) (fun F hF hQ => ?_)
  refine g_iload_n hF (by decide +kernel : decode cX4_walkFrom 0 = .ok (.iload_n 1, 1)) rfl ?_
  refine g_callS hF lkX4_51 (c_X4_checkSlot X hX _ (by omega) (by omega) _) (by decide +kernel : decode cX4_walkFrom 1 = .ok (.invokestatic 51, 3)) (by decide) rfl rfl (Nat.le_of_ble_eq_true rfl) (fun v1 m1 h1 => ?_)
  obtain ⟨rfl, e1⟩ := h1
  obtain rfl := e1.symm
  refine g_iload_n hF (by decide +kernel : decode cX4_walkFrom 4 = .ok (.iload_n 2, 1)) rfl ?_
  exact g_callXS hF hQ lkX4_55 (x_X4_checkNumber X hX _ hk h _) (by decide +kernel : decode cX4_walkFrom 5 = .ok (.invokestatic 55, 3)) (by decide) rfl rfl (Nat.le_of_ble_eq_true rfl) 
set_option maxHeartbeats 4000000 in
set_option maxRecDepth 100000 in
theorem xc_X4_walkFrom (X : jX) (hX : jxok X) (s : Nat) (hs : s < 8) (k : Int) (hk : jr k) (m : jM) (hC : CI m) (hn : num k) (h : tat (m s) k = -2) : ConX X yX4_walkFrom cX4_walkFrom 3 none 10 [vR 2 38, vI s, vI k] m "java/util/NoSuchElementException" := by
  refine ConX.of hX (by decide) (Nat.le_of_ble_eq_true rfl) (fun F hF hQ => ?_)
  have hr := (hC.1 s (by omega)).1
  unfold num at hn
  refine g_iload_n hF (by decide +kernel : decode cX4_walkFrom 0 = .ok (.iload_n 1, 1)) rfl ?_
  refine g_callS hF lkX4_51 (c_X4_checkSlot X hX _ (by omega) (by omega) _) (by decide +kernel : decode cX4_walkFrom 1 = .ok (.invokestatic 51, 3)) (by decide) rfl rfl (Nat.le_of_ble_eq_true rfl) (fun v1 m1 h1 => ?_)
  obtain ⟨rfl, e1⟩ := h1
  obtain rfl := e1.symm
  refine g_iload_n hF (by decide +kernel : decode cX4_walkFrom 4 = .ok (.iload_n 2, 1)) rfl ?_
  refine g_callS hF lkX4_55 (c_X4_checkNumber X hX _ (by omega) (by unfold num; omega) _) (by decide +kernel : decode cX4_walkFrom 5 = .ok (.invokestatic 55, 3)) (by decide) rfl rfl (Nat.le_of_ble_eq_true rfl) (fun v5 m5 h5 => ?_)
  obtain ⟨rfl, e5⟩ := h5
  obtain rfl := e5.symm
  refine g_aload_n hF (by decide +kernel : decode cX4_walkFrom 8 = .ok (.aload_n 0, 1)) rfl ?_
  refine g_getC hF lkX4_11 (by decide +kernel : decode cX4_walkFrom 9 = .ok (.getfield 11, 3)) jok38 rfl rfl ?_
  refine g_iload_n hF (by decide +kernel : decode cX4_walkFrom 12 = .ok (.iload_n 1, 1)) rfl ?_
  refine g_aaload_39 hF (by decide +kernel : decode cX4_walkFrom 13 = .ok (.aaload, 1)) (rfl) hs ?_
  refine g_iload_n hF (by decide +kernel : decode cX4_walkFrom 14 = .ok (.iload_n 2, 1)) rfl ?_
  exact g_callXS hF hQ lkX4_305 (x_X4_checkIsKey X hX _ (show s < 19 by omega) _ hk _ hr h) (by decide +kernel : decode cX4_walkFrom 15 = .ok (.invokestatic 305, 3)) (by decide) rfl rfl (Nat.le_of_ble_eq_true rfl) 
set_option maxHeartbeats 4000000 in
set_option maxRecDepth 100000 in
theorem c_X4_walkFrom (X : jX) (hX : jxok X) (s : Nat) (hs : s < 8) (k : Int) (hk : jr k) (m : jM) (hC : CI m) (hn : num k) (h : ¬ tat (m s) k = -2) : Con X yX4_walkFrom cX4_walkFrom 3 none 5 [vR 2 38, vI s, vI k] m (fun o m' => o = none ∧ m' = wkR (mrow m 49 (fun _ => 0)) (m s) k) := by
  refine Con.of hX (by decide) (Nat.le_of_ble_eq_true rfl) (fun F hF hQ => ?_)
  have hr := (hC.1 s (by omega)).1
  unfold num at hn
  refine g_iload_n hF (by decide +kernel : decode cX4_walkFrom 0 = .ok (.iload_n 1, 1)) rfl ?_
  refine g_callS hF lkX4_51 (c_X4_checkSlot X hX _ (by omega) (by omega) _) (by decide +kernel : decode cX4_walkFrom 1 = .ok (.invokestatic 51, 3)) (by decide) rfl rfl (Nat.le_of_ble_eq_true rfl) (fun v1 m1 h1 => ?_)
  obtain ⟨rfl, e1⟩ := h1
  obtain rfl := e1.symm
  refine g_iload_n hF (by decide +kernel : decode cX4_walkFrom 4 = .ok (.iload_n 2, 1)) rfl ?_
  refine g_callS hF lkX4_55 (c_X4_checkNumber X hX _ (by omega) (by unfold num; omega) _) (by decide +kernel : decode cX4_walkFrom 5 = .ok (.invokestatic 55, 3)) (by decide) rfl rfl (Nat.le_of_ble_eq_true rfl) (fun v5 m5 h5 => ?_)
  obtain ⟨rfl, e5⟩ := h5
  obtain rfl := e5.symm
  refine g_aload_n hF (by decide +kernel : decode cX4_walkFrom 8 = .ok (.aload_n 0, 1)) rfl ?_
  refine g_getC hF lkX4_11 (by decide +kernel : decode cX4_walkFrom 9 = .ok (.getfield 11, 3)) jok38 rfl rfl ?_
  refine g_iload_n hF (by decide +kernel : decode cX4_walkFrom 12 = .ok (.iload_n 1, 1)) rfl ?_
  refine g_aaload_39 hF (by decide +kernel : decode cX4_walkFrom 13 = .ok (.aaload, 1)) (rfl) hs ?_
  refine g_iload_n hF (by decide +kernel : decode cX4_walkFrom 14 = .ok (.iload_n 2, 1)) rfl ?_
  refine g_callS hF lkX4_305 (c_X4_checkIsKey X hX _ (show s < 19 by omega) _ (by omega) _ (by assumption) (by assumption)) (by decide +kernel : decode cX4_walkFrom 15 = .ok (.invokestatic 305, 3)) (by decide) rfl rfl (Nat.le_of_ble_eq_true rfl) (fun v15 m15 h15 => ?_)
  obtain ⟨rfl, e15⟩ := h15
  obtain rfl := e15.symm
  refine g_aload_n hF (by decide +kernel : decode cX4_walkFrom 18 = .ok (.aload_n 0, 1)) rfl ?_
  refine g_getC hF lkX4_32 (by decide +kernel : decode cX4_walkFrom 19 = .ok (.getfield 32, 3)) jok38 rfl rfl ?_
  refine g_callV hF lkX4_308 (c_X3_forget X hX _) (by decide +kernel : decode cX4_walkFrom 22 = .ok (.invokevirtual 308, 3)) (by decide) rfl rfl rfl rfl jok48 (Nat.le_of_ble_eq_true rfl) (fun v22 m22 h22 => ?_)
  obtain ⟨rfl, e22⟩ := h22
  obtain rfl := e22.symm
  refine g_aload_n hF (by decide +kernel : decode cX4_walkFrom 25 = .ok (.aload_n 0, 1)) rfl ?_
  refine g_getC hF lkX4_32 (by decide +kernel : decode cX4_walkFrom 26 = .ok (.getfield 32, 3)) jok38 rfl rfl ?_
  refine g_aload_n hF (by decide +kernel : decode cX4_walkFrom 29 = .ok (.aload_n 0, 1)) rfl ?_
  refine g_getC hF lkX4_11 (by decide +kernel : decode cX4_walkFrom 30 = .ok (.getfield 11, 3)) jok38 rfl rfl ?_
  refine g_iload_n hF (by decide +kernel : decode cX4_walkFrom 33 = .ok (.iload_n 1, 1)) rfl ?_
  refine g_aaload_39 hF (by decide +kernel : decode cX4_walkFrom 34 = .ok (.aaload, 1)) (rfl) hs ?_
  refine g_iload_n hF (by decide +kernel : decode cX4_walkFrom 35 = .ok (.iload_n 2, 1)) rfl ?_
  have hr2 : rowok (mrow m 49 (fun _ => 0) s) := by rw [mrow_ne (by omega)]; exact hr
  have hA : ain (mrow m 49 (fun _ => 0) 49) := by rw [mrow_at]; exact fun z _ _ => ⟨Int.le_refl _, (by decide : (0 : Int) ≤ 257)⟩
  refine g_callV hF lkX4_311 (c_X3_follow X hX _ (show s < 19 by omega) _ (by omega) _ (by assumption) (by assumption)) (by decide +kernel : decode cX4_walkFrom 36 = .ok (.invokevirtual 311, 3)) (by decide) rfl rfl rfl rfl jok48 (Nat.le_of_ble_eq_true rfl) (fun v36 m36 h36 => ?_)
  obtain ⟨rfl, e36⟩ := h36
  obtain rfl := e36.symm
  refine g_return hF hQ (by decide +kernel : decode cX4_walkFrom 39 = .ok (.return_, 1)) ?_
  exact ⟨rfl, by rw [mrow_ne (show s ≠ 49 by omega)]⟩
set_option maxHeartbeats 4000000 in
set_option maxRecDepth 100000 in
theorem c_X4_raise (X : jX) (hX : jxok X) (t : Nat) (ht : t < 8) (e : Nat) (he : e ≤ 1000) (m : jM) (hC : CI m) : Con X yX4_raise cX4_raise 4 none 5 [vR 2 38, vR 1 t, vI e] m (fun o m' => o = none ∧ CQ m m' ∧ eqR (m' 16) (powN (m t) (selv (m t)) e)) := by
  refine Con.of hX (by decide) (Nat.le_of_ble_eq_true rfl) (fun F hF hQ => ?_)
  have hr := (hC.1 t (by omega)).1
  refine g_aload_n hF (by decide +kernel : decode cX4_raise 0 = .ok (.aload_n 0, 1)) rfl ?_
  refine g_getC hF lkX4_37 (by decide +kernel : decode cX4_raise 1 = .ok (.getfield 37, 3)) jok38 rfl rfl ?_
  refine g_aload_n hF (by decide +kernel : decode cX4_raise 4 = .ok (.aload_n 1, 1)) rfl ?_
  refine g_callV hF lkX4_314 (c_X2_becomeSelves X hX _ ht16 _ (show t < 19 by omega) (show t ≠ 16 by omega) _ hr) (by decide +kernel : decode cX4_raise 5 = .ok (.invokevirtual 314, 3)) (by decide) rfl rfl rfl rfl ht16 (Nat.le_of_ble_eq_true rfl) (fun v5 m5 h5 => ?_)
  obtain ⟨rfl, e5⟩ := h5
  have q5 : CQ m m5 := by rw [e5]; exact CQ_tset hC (by omega) (by omega) (selv_ok (m t))
  have r5 : m5 16 = selv (m t) := by rw [e5, tset_at]; rfl
  have t5 : m5 t = m t := by rw [e5]; exact tset_ne (by omega) (by omega)
  have u5 : m5 (19 + t) 0 = cnt (m5 t) := (q5.1.1 t (by omega)).2
  refine g_aload_n hF (by decide +kernel : decode cX4_raise 8 = .ok (.aload_n 0, 1)) rfl ?_
  refine g_getC hF lkX4_41 (by decide +kernel : decode cX4_raise 9 = .ok (.getfield 41, 3)) jok38 rfl rfl ?_
  refine g_aload_n hF (by decide +kernel : decode cX4_raise 12 = .ok (.aload_n 1, 1)) rfl ?_
  have u13 := u5
  refine g_callV hF lkX4_140 (c_X2_become X hX _ ht17 _ (show t < 19 by omega) _ (by assumption)) (by decide +kernel : decode cX4_raise 13 = .ok (.invokevirtual 140, 3)) (by decide) rfl rfl rfl rfl ht17 (Nat.le_of_ble_eq_true rfl) (fun v13 m13 h13 => ?_)
  obtain ⟨rfl, e13⟩ := h13
  have q13 : CQ m m13 := by rw [e13]; exact CQ_trans q5 (CQ_tset q5.1 (by omega) (by omega) (by rw [t5]; exact hr))
  have r13 : m13 16 = selv (m t) := by rw [e13, tset_ne (by omega) (by omega), r5]
  have s13 : m13 17 = m t := by rw [e13, tset_at, t5]
  refine g_iload_n hF (by decide +kernel : decode cX4_raise 16 = .ok (.iload_n 2, 1)) rfl ?_
  refine g_istore_n hF (by decide +kernel : decode cX4_raise 17 = .ok (.istore_n 3, 1)) (by decide) ?_
  have loop : ∀ (n r : Nat) (mm : jM), r < n → r ≤ 1000 → CQ m mm → powN (mm 17) (mm 16) r = powN (m t) (selv (m t)) e → jG F X mm 18 [(0, vR 2 38), (1, vR 1 t), (2, vI e), (3, vI r)] [] := by
    intro n
    induction n with
    | zero => intro r mm h1; exact absurd h1 (by omega)
    | succ n ih =>
      intro r mm h1 hr1 qm hp
      refine g_iload_n hF (by decide +kernel : decode cX4_raise 18 = .ok (.iload_n 3, 1)) rfl ?_
      refine g_if_le hF (tgt := 69) (by decide +kernel : decode cX4_raise 19 = .ok (.ifCond .le 50, 3)) (by decide) (by omega) (fun c19 => ?_) (fun c19 => ?_)
      · skip
        refine g_return hF hQ (by decide +kernel : decode cX4_raise 69 = .ok (.return_, 1)) ?_
        exact ⟨rfl, qm, by rw [← hp, show r = 0 by omega, powN_0]; exact eqR_rfl _⟩
      · skip
        refine g_iload_n hF (by decide +kernel : decode cX4_raise 22 = .ok (.iload_n 3, 1)) rfl ?_
        refine g_iconst hF (by decide +kernel : decode cX4_raise 23 = .ok (.iconst 1, 1)) ?_
        refine g_iand hF (by decide +kernel : decode cX4_raise 24 = .ok (.iand, 1)) ?_
        refine g_iconst hF (by decide +kernel : decode cX4_raise 25 = .ok (.iconst 1, 1)) ?_
        refine g_icmp_ne hF (tgt := 40) (by decide +kernel : decode cX4_raise 26 = .ok (.if_icmp .ne 14, 3)) (by decide) (jand_r r 1) (by omega) (fun c26 => ?_) (fun c26 => ?_)
        · skip
          refine g_aload_n hF (by decide +kernel : decode cX4_raise 40 = .ok (.aload_n 0, 1)) rfl ?_
          refine g_getC hF lkX4_44 (by decide +kernel : decode cX4_raise 41 = .ok (.getfield 44, 3)) jok38 rfl rfl ?_
          refine g_aload_n hF (by decide +kernel : decode cX4_raise 44 = .ok (.aload_n 0, 1)) rfl ?_
          refine g_getC hF lkX4_41 (by decide +kernel : decode cX4_raise 45 = .ok (.getfield 41, 3)) jok38 rfl rfl ?_
          have u48 : mm (19 + 17) 0 = cnt (mm 17) := (qm.1.1 17 (by omega)).2
          refine g_callV hF lkX4_140 (c_X2_become X hX _ ht18 _ ht17 _ (by assumption)) (by decide +kernel : decode cX4_raise 48 = .ok (.invokevirtual 140, 3)) (by decide) rfl rfl rfl rfl ht18 (Nat.le_of_ble_eq_true rfl) (fun v48 m48 h48 => ?_)
          obtain ⟨rfl, e48⟩ := h48
          have q48 : CQ m m48 := by rw [e48]; exact CQ_trans qm (CQ_tset qm.1 (by omega) (by omega) (qm.1.1 17 (by omega)).1)
          have r48 : m48 16 = mm 16 := by rw [e48]; exact tset_ne (by omega) (by omega)
          have s48 : m48 17 = mm 17 := by rw [e48]; exact tset_ne (by omega) (by omega)
          have v48 : m48 18 = mm 17 := by rw [e48, tset_at]
          refine g_aload_n hF (by decide +kernel : decode cX4_raise 51 = .ok (.aload_n 0, 1)) rfl ?_
          refine g_getC hF lkX4_41 (by decide +kernel : decode cX4_raise 52 = .ok (.getfield 41, 3)) jok38 rfl rfl ?_
          refine g_aload_n hF (by decide +kernel : decode cX4_raise 55 = .ok (.aload_n 0, 1)) rfl ?_
          refine g_getC hF lkX4_44 (by decide +kernel : decode cX4_raise 56 = .ok (.getfield 44, 3)) jok38 rfl rfl ?_
          refine g_callV hF lkX4_159 (c_X2_sendThrough X hX _ ht17 _ ht18 (by decide) _ (q48.1.1 17 (by omega)) (q48.1.1 18 (by omega)).1) (by decide +kernel : decode cX4_raise 59 = .ok (.invokevirtual 159, 3)) (by decide) rfl rfl rfl rfl ht17 (Nat.le_of_ble_eq_true rfl) (fun v59 m59 h59 => ?_)
          obtain ⟨rfl, e59⟩ := h59
          have q59 : CQ m m59 := by rw [e59]; exact CQ_trans q48 (CQ_tset q48.1 (by omega) (by omega) (comp_ok (h := m48 18) (g := m48 17) (q48.1.1 18 (by omega)).1))
          have s59 : m59 17 = comp (mm 17) (mm 17) := by rw [e59, tset_at, v48, s48]; rfl
          have r59 : m59 16 = m48 16 := by rw [e59]; exact tset_ne (by omega) (by omega)
          rw [r48] at r59
          refine g_iload_n hF (by decide +kernel : decode cX4_raise 62 = .ok (.iload_n 3, 1)) rfl ?_
          refine g_iconst hF (by decide +kernel : decode cX4_raise 63 = .ok (.iconst 1, 1)) ?_
          refine g_ishr hF (by decide +kernel : decode cX4_raise 64 = .ok (.ishr, 1)) ?_
          refine g_istore_n hF (by decide +kernel : decode cX4_raise 65 = .ok (.istore_n 3, 1)) (by decide) ?_
          refine g_goto hF (tgt := 18) (by decide +kernel : decode cX4_raise 66 = .ok (.goto (-48), 3)) (by decide) ?_
          rw [jand_1 (by omega) (by omega)] at c26
          rw [jshr_1 (by omega) (by omega), show (r : Int) / 2 = ((r / 2 : Nat) : Int) by omega]
          exact ih (r / 2) m59 (by omega) (by omega) q59 (by rw [s59, r59, powN_2, show 2 * (r / 2) = r by omega]; exact hp)
        · skip
          refine g_aload_n hF (by decide +kernel : decode cX4_raise 29 = .ok (.aload_n 0, 1)) rfl ?_
          refine g_getC hF lkX4_37 (by decide +kernel : decode cX4_raise 30 = .ok (.getfield 37, 3)) jok38 rfl rfl ?_
          refine g_aload_n hF (by decide +kernel : decode cX4_raise 33 = .ok (.aload_n 0, 1)) rfl ?_
          refine g_getC hF lkX4_41 (by decide +kernel : decode cX4_raise 34 = .ok (.getfield 41, 3)) jok38 rfl rfl ?_
          refine g_callV hF lkX4_159 (c_X2_sendThrough X hX _ ht16 _ ht17 (by decide) _ (qm.1.1 16 (by omega)) (qm.1.1 17 (by omega)).1) (by decide +kernel : decode cX4_raise 37 = .ok (.invokevirtual 159, 3)) (by decide) rfl rfl rfl rfl ht16 (Nat.le_of_ble_eq_true rfl) (fun v37 m37 h37 => ?_)
          obtain ⟨rfl, e37⟩ := h37
          have q37 : CQ m m37 := by rw [e37]; exact CQ_trans qm (CQ_tset qm.1 (by omega) (by omega) (comp_ok (h := mm 17) (g := mm 16) (qm.1.1 17 (by omega)).1))
          have r37 : m37 16 = comp (mm 17) (mm 16) := by rw [e37, tset_at]; rfl
          have s37 : m37 17 = mm 17 := by rw [e37]; exact tset_ne (by omega) (by omega)
          have u37 : m37 (19 + 17) 0 = cnt (m37 17) := (q37.1.1 17 (by omega)).2
          refine g_aload_n hF (by decide +kernel : decode cX4_raise 40 = .ok (.aload_n 0, 1)) rfl ?_
          refine g_getC hF lkX4_44 (by decide +kernel : decode cX4_raise 41 = .ok (.getfield 44, 3)) jok38 rfl rfl ?_
          refine g_aload_n hF (by decide +kernel : decode cX4_raise 44 = .ok (.aload_n 0, 1)) rfl ?_
          refine g_getC hF lkX4_41 (by decide +kernel : decode cX4_raise 45 = .ok (.getfield 41, 3)) jok38 rfl rfl ?_
          have u48 : mm (19 + 17) 0 = cnt (mm 17) := (qm.1.1 17 (by omega)).2
          refine g_callV hF lkX4_140 (c_X2_become X hX _ ht18 _ ht17 _ (by assumption)) (by decide +kernel : decode cX4_raise 48 = .ok (.invokevirtual 140, 3)) (by decide) rfl rfl rfl rfl ht18 (Nat.le_of_ble_eq_true rfl) (fun v48 m48 h48 => ?_)
          obtain ⟨rfl, e48⟩ := h48
          have q48 : CQ m m48 := by rw [e48]; exact CQ_trans q37 (CQ_tset q37.1 (by omega) (by omega) (q37.1.1 17 (by omega)).1)
          have r48 : m48 16 = comp (mm 17) (mm 16) := by rw [e48, tset_ne (by omega) (by omega), r37]
          have s48 : m48 17 = mm 17 := by rw [e48, tset_ne (by omega) (by omega), s37]
          have v48 : m48 18 = mm 17 := by rw [e48, tset_at, s37]
          refine g_aload_n hF (by decide +kernel : decode cX4_raise 51 = .ok (.aload_n 0, 1)) rfl ?_
          refine g_getC hF lkX4_41 (by decide +kernel : decode cX4_raise 52 = .ok (.getfield 41, 3)) jok38 rfl rfl ?_
          refine g_aload_n hF (by decide +kernel : decode cX4_raise 55 = .ok (.aload_n 0, 1)) rfl ?_
          refine g_getC hF lkX4_44 (by decide +kernel : decode cX4_raise 56 = .ok (.getfield 44, 3)) jok38 rfl rfl ?_
          refine g_callV hF lkX4_159 (c_X2_sendThrough X hX _ ht17 _ ht18 (by decide) _ (q48.1.1 17 (by omega)) (q48.1.1 18 (by omega)).1) (by decide +kernel : decode cX4_raise 59 = .ok (.invokevirtual 159, 3)) (by decide) rfl rfl rfl rfl ht17 (Nat.le_of_ble_eq_true rfl) (fun v59 m59 h59 => ?_)
          obtain ⟨rfl, e59⟩ := h59
          have q59 : CQ m m59 := by rw [e59]; exact CQ_trans q48 (CQ_tset q48.1 (by omega) (by omega) (comp_ok (h := m48 18) (g := m48 17) (q48.1.1 18 (by omega)).1))
          have s59 : m59 17 = comp (mm 17) (mm 17) := by rw [e59, tset_at, v48, s48]; rfl
          have r59 : m59 16 = m48 16 := by rw [e59]; exact tset_ne (by omega) (by omega)
          rw [r48] at r59
          refine g_iload_n hF (by decide +kernel : decode cX4_raise 62 = .ok (.iload_n 3, 1)) rfl ?_
          refine g_iconst hF (by decide +kernel : decode cX4_raise 63 = .ok (.iconst 1, 1)) ?_
          refine g_ishr hF (by decide +kernel : decode cX4_raise 64 = .ok (.ishr, 1)) ?_
          refine g_istore_n hF (by decide +kernel : decode cX4_raise 65 = .ok (.istore_n 3, 1)) (by decide) ?_
          refine g_goto hF (tgt := 18) (by decide +kernel : decode cX4_raise 66 = .ok (.goto (-48), 3)) (by decide) ?_
          rw [jand_1 (by omega) (by omega)] at c26
          rw [jshr_1 (by omega) (by omega), show (r : Int) / 2 = ((r / 2 : Nat) : Int) by omega]
          exact ih (r / 2) m59 (by omega) (by omega) q59 (by rw [s59, r59, powN_2, ← powN_s', show 2 * (r / 2) + 1 = r by omega]; exact hp)
  exact loop (e + 1) e m13 (by omega) (by omega) q13 (by rw [s13, r13])

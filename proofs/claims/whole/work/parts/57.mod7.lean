set_option maxHeartbeats 4000000 in
set_option maxRecDepth 100000 in
theorem c_X5_clear (X : jX) (hX : jxok X) (s : Nat) (hs : s < 8) (m : jM) (hI : MI m) : Con X yX5_clear cX5_clear 4 (some .int) 8 [vR 2 51, vI s] m (fun o m' => o = some (vI (cnt (mR m s))) ∧ MW (mset m 51 2 0) s (fun _ => -2) m') := by
  refine Con.of hX (by decide) (Nat.le_of_ble_eq_true rfl) (fun F hF hQ => ?_)
  have hr := hI.1 s hs
  refine g_aload_n hF (by decide +kernel : decode cX5_clear 0 = .ok (.aload_n 0, 1)) rfl ?_
  refine g_iload_n hF (by decide +kernel : decode cX5_clear 1 = .ok (.iload_n 1, 1)) rfl ?_
  refine g_callS hF lkX5_42 (y_X5_isSlot X hX _ (by omega) (by omega) _) (by decide +kernel : decode cX5_clear 2 = .ok (.invokestatic 42, 3)) (by decide) rfl rfl (Nat.le_of_ble_eq_true rfl) (fun v2 m2 h2 => ?_)
  obtain ⟨rfl, e2⟩ := h2
  obtain rfl := e2.symm
  refine g_if_eq hF (tgt := 12) (by decide +kernel : decode cX5_clear 5 = .ok (.ifCond .eq 7, 3)) (by decide) (by omega) (fun c5 => ?_) (fun c5 => ?_)
  · skip
    exact absurd c5 (by decide)
  · skip
    refine g_iconst hF (by decide +kernel : decode cX5_clear 8 = .ok (.iconst 0, 1)) ?_
    refine g_goto hF (tgt := 13) (by decide +kernel : decode cX5_clear 9 = .ok (.goto 4, 3)) (by decide) ?_
    refine g_callV hF lkX5_53 (y_X5_fails X hX _) (by decide +kernel : decode cX5_clear 13 = .ok (.invokevirtual 53, 3)) (by decide) rfl rfl rfl rfl jok51 (Nat.le_of_ble_eq_true rfl) (fun v13 m13 h13 => ?_)
    obtain ⟨rfl, e13⟩ := h13
    have S0 : MSm m m13 := by rw [e13]; exact MSm_code m (Or.inl rfl) 0
    have I0 := MI_S hI S0
    have z0 : m13 51 2 = 0 := by rw [e13, mset_at]
    have r0 : ∀ t : Nat, mR m13 t = mR m t := fun t => mR_52 (S0.1 52 (by decide) (by decide) (by decide)) t
    refine g_if_eq hF (tgt := 21) (by decide +kernel : decode cX5_clear 16 = .ok (.ifCond .eq 5, 3)) (by decide) (by omega) (fun c16 => ?_) (fun c16 => ?_)
    · skip
      refine g_aload_n hF (by decide +kernel : decode cX5_clear 21 = .ok (.aload_n 0, 1)) rfl ?_
      refine g_iload_n hF (by decide +kernel : decode cX5_clear 22 = .ok (.iload_n 1, 1)) rfl ?_
      refine g_callV hF lkX5_56 (c_X5_keeps X hX _ (by omega) _ (by assumption)) (by decide +kernel : decode cX5_clear 23 = .ok (.invokevirtual 56, 3)) (by decide) rfl rfl rfl rfl jok51 (Nat.le_of_ble_eq_true rfl) (fun v23 m23 h23 => ?_)
      obtain ⟨rfl, k23⟩ := h23
      have I1 := MI_keep hs I0 k23
      have rk : mR m23 s = mR m s := by rw [mR_52 (m_52 k23), r0]
      have hm1 : rowok (mR m23 s) := by rw [rk]; exact hr
      refine g_aload_n hF (by decide +kernel : decode cX5_clear 26 = .ok (.aload_n 0, 1)) rfl ?_
      refine g_iload_n hF (by decide +kernel : decode cX5_clear 27 = .ok (.iload_n 1, 1)) rfl ?_
      refine g_callV hF lkX5_68 (c_X5_many X hX _ (by omega) _ (by assumption)) (by decide +kernel : decode cX5_clear 28 = .ok (.invokevirtual 68, 3)) (by decide) rfl rfl rfl rfl jok51 (Nat.le_of_ble_eq_true rfl) (fun v28 m28 h28 => ?_)
      obtain ⟨rfl, e28⟩ := h28
      obtain rfl := e28.symm
      rw [rk]
      refine g_istore_n hF (by decide +kernel : decode cX5_clear 31 = .ok (.istore_n 2, 1)) (by decide) ?_
      refine g_iconst hF (by decide +kernel : decode cX5_clear 32 = .ok (.iconst (-1), 1)) ?_
      refine g_istore_n hF (by decide +kernel : decode cX5_clear 33 = .ok (.istore_n 3, 1)) (by decide) ?_
      have loop : ∀ (n i : Nat) (mm : jM) (k : Int), i ≤ 257 → 258 ≤ i + n → k = i - 1 → mm = mw m23 s (upto (fun _ => -2) (mR m23 s) i) → jG F X mm 34 [(0, vR 2 51), (1, vI s), (2, vI (cnt (mR m s))), (3, vI k)] [] := by
        intro n
        induction n with
        | zero => intro i mm k h1 h2; exact absurd h2 (by omega)
        | succ n ih =>
          intro i mm k h1 h2 hc0 hc1
          refine g_iload_n hF (by decide +kernel : decode cX5_clear 34 = .ok (.iload_n 3, 1)) rfl ?_
          refine g_sipush hF (by decide +kernel : decode cX5_clear 35 = .ok (.sipush 256, 3)) (by decide) ?_
          refine g_icmp_ge hF (tgt := 55) (by decide +kernel : decode cX5_clear 38 = .ok (.if_icmp .ge 17, 3)) (by decide) (by omega) (by omega) (fun c38 => ?_) (fun c38 => ?_)
          · skip
            refine g_iload_n hF (by decide +kernel : decode cX5_clear 55 = .ok (.iload_n 2, 1)) rfl ?_
            refine g_ireturn hF hQ (by decide +kernel : decode cX5_clear 56 = .ok (.ireturn, 1)) ?_
            exact ⟨rfl, by rw [← e13]; exact MW_end (by omega) k23 hc1⟩
          · skip
            refine g_aload_n hF (by decide +kernel : decode cX5_clear 41 = .ok (.aload_n 0, 1)) rfl ?_
            refine g_iload_n hF (by decide +kernel : decode cX5_clear 42 = .ok (.iload_n 1, 1)) rfl ?_
            refine g_iload_n hF (by decide +kernel : decode cX5_clear 43 = .ok (.iload_n 3, 1)) rfl ?_
            refine g_bipush hF (by decide +kernel : decode cX5_clear 44 = .ok (.bipush (-2), 2)) (by decide) ?_
            refine g_callV hF lkX5_64 (c_X5_sets X hX _ (by omega) _ _ (show num _ from ⟨by omega, by omega⟩) _) (by decide +kernel : decode cX5_clear 46 = .ok (.invokevirtual 64, 3)) (by decide) rfl rfl rfl rfl jok51 (Nat.le_of_ble_eq_true rfl) (fun v46 m46 h46 => ?_)
            obtain ⟨rfl, e46⟩ := h46
            refine g_iinc hF (by decide +kernel : decode cX5_clear 49 = .ok (.iinc 3 1, 3)) rfl (by decide) ?_
            refine g_goto hF (tgt := 34) (by decide +kernel : decode cX5_clear 52 = .ok (.goto (-18), 3)) (by decide) ?_
            exact ih (i + 1) _ _ (by omega) (by omega) (by omega) (by rw [e46, hc1]; exact mw_mark rfl hc0 (by omega))
      exact loop 258 0 _ (-1) (by omega) (by omega) (by omega) (mw_0 m23 s _).symm
    · skip
      exact absurd c16 (by decide)
set_option maxHeartbeats 4000000 in
set_option maxRecDepth 100000 in
theorem n1_X5_clear (X : jX) (hX : jxok X) (s : Int) (js : jr s) (m : jM) (h : ¬ (0 ≤ s ∧ s < 8)) : Con X yX5_clear cX5_clear 4 (some .int) 8 [vR 2 51, vI s] m (fun o m' => o = some (vI 0) ∧ m' = mset m 51 2 1) := by
  refine Con.of hX (by decide) (Nat.le_of_ble_eq_true rfl) (fun F hF hQ => ?_)
  refine g_aload_n hF (by decide +kernel : decode cX5_clear 0 = .ok (.aload_n 0, 1)) rfl ?_
  refine g_iload_n hF (by decide +kernel : decode cX5_clear 1 = .ok (.iload_n 1, 1)) rfl ?_
  refine g_callS hF lkX5_42 (n_X5_isSlot X hX _ (by omega) (by omega) _) (by decide +kernel : decode cX5_clear 2 = .ok (.invokestatic 42, 3)) (by decide) rfl rfl (Nat.le_of_ble_eq_true rfl) (fun v2 m2 h2 => ?_)
  obtain ⟨rfl, e2⟩ := h2
  obtain rfl := e2.symm
  refine g_if_eq hF (tgt := 12) (by decide +kernel : decode cX5_clear 5 = .ok (.ifCond .eq 7, 3)) (by decide) (by omega) (fun c5 => ?_) (fun c5 => ?_)
  · skip
    refine g_iconst hF (by decide +kernel : decode cX5_clear 12 = .ok (.iconst 1, 1)) ?_
    refine g_callV hF lkX5_53 (n_X5_fails X hX _ (by decide) _) (by decide +kernel : decode cX5_clear 13 = .ok (.invokevirtual 53, 3)) (by decide) rfl rfl rfl rfl jok51 (Nat.le_of_ble_eq_true rfl) (fun v13 m13 h13 => ?_)
    obtain ⟨rfl, e13⟩ := h13
    obtain rfl := e13.symm
    refine g_if_eq hF (tgt := 21) (by decide +kernel : decode cX5_clear 16 = .ok (.ifCond .eq 5, 3)) (by decide) (by omega) (fun c16 => ?_) (fun c16 => ?_)
    · skip
      exact absurd c16 (by decide)
    · skip
      refine g_iconst hF (by decide +kernel : decode cX5_clear 19 = .ok (.iconst 0, 1)) ?_
      refine g_ireturn hF hQ (by decide +kernel : decode cX5_clear 20 = .ok (.ireturn, 1)) ?_
      exact ⟨rfl, rfl⟩
  · skip
    exact absurd c5 (by decide)
set_option maxHeartbeats 4000000 in
set_option maxRecDepth 100000 in
theorem c_X5_dropValue (X : jX) (hX : jxok X) (s : Nat) (hs : s < 8) (v : Int) (hv : num v) (m : jM) (hI : MI m) : Con X yX5_dropValue cX5_dropValue 5 (some .int) 8 [vR 2 51, vI s, vI v] m (fun o m' => o = some (vI (cnt (mR m s) - cnt (fun z => if mR m s z = v then -2 else mR m s z))) ∧ MW (mset m 51 2 0) s (fun z => if mR m s z = v then -2 else mR m s z) m') := by
  refine Con.of hX (by decide) (Nat.le_of_ble_eq_true rfl) (fun F hF hQ => ?_)
  have hr := hI.1 s hs
  have hv2 : -1 ≤ v ∧ v ≤ 255 := hv
  refine g_aload_n hF (by decide +kernel : decode cX5_dropValue 0 = .ok (.aload_n 0, 1)) rfl ?_
  refine g_aload_n hF (by decide +kernel : decode cX5_dropValue 1 = .ok (.aload_n 0, 1)) rfl ?_
  refine g_iload_n hF (by decide +kernel : decode cX5_dropValue 2 = .ok (.iload_n 1, 1)) rfl ?_
  refine g_iload_n hF (by decide +kernel : decode cX5_dropValue 3 = .ok (.iload_n 2, 1)) rfl ?_
  refine g_iconst hF (by decide +kernel : decode cX5_dropValue 4 = .ok (.iconst 0, 1)) ?_
  refine g_iconst hF (by decide +kernel : decode cX5_dropValue 5 = .ok (.iconst 0, 1)) ?_
  refine g_callV hF lkX5_49 (y_X5_no X hX _ (by omega) _ _ _ (by omega) (by omega) (by omega) (by unfold num; omega) _) (by decide +kernel : decode cX5_dropValue 6 = .ok (.invokevirtual 49, 3)) (by decide) rfl rfl rfl rfl jok51 (Nat.le_of_ble_eq_true rfl) (fun v6 m6 h6 => ?_)
  obtain ⟨rfl, e6⟩ := h6
  obtain rfl := e6.symm
  refine g_callV hF lkX5_53 (y_X5_fails X hX _) (by decide +kernel : decode cX5_dropValue 9 = .ok (.invokevirtual 53, 3)) (by decide) rfl rfl rfl rfl jok51 (Nat.le_of_ble_eq_true rfl) (fun v9 m9 h9 => ?_)
  obtain ⟨rfl, e9⟩ := h9
  have S0 : MSm m m9 := by rw [e9]; exact MSm_code m (Or.inl rfl) 0
  have I0 := MI_S hI S0
  have z0 : m9 51 2 = 0 := by rw [e9, mset_at]
  have r0 : ∀ t : Nat, mR m9 t = mR m t := fun t => mR_52 (S0.1 52 (by decide) (by decide) (by decide)) t
  refine g_if_eq hF (tgt := 17) (by decide +kernel : decode cX5_dropValue 12 = .ok (.ifCond .eq 5, 3)) (by decide) (by omega) (fun c12 => ?_) (fun c12 => ?_)
  · skip
    refine g_aload_n hF (by decide +kernel : decode cX5_dropValue 17 = .ok (.aload_n 0, 1)) rfl ?_
    refine g_iload_n hF (by decide +kernel : decode cX5_dropValue 18 = .ok (.iload_n 1, 1)) rfl ?_
    refine g_callV hF lkX5_56 (c_X5_keeps X hX _ (by omega) _ (by assumption)) (by decide +kernel : decode cX5_dropValue 19 = .ok (.invokevirtual 56, 3)) (by decide) rfl rfl rfl rfl jok51 (Nat.le_of_ble_eq_true rfl) (fun v19 m19 h19 => ?_)
    obtain ⟨rfl, k19⟩ := h19
    have I1 := MI_keep hs I0 k19
    have rk : mR m19 s = mR m s := by rw [mR_52 (m_52 k19), r0]
    have hm1 : rowok (mR m19 s) := by rw [rk]; exact hr
    refine g_aload_n hF (by decide +kernel : decode cX5_dropValue 22 = .ok (.aload_n 0, 1)) rfl ?_
    refine g_iload_n hF (by decide +kernel : decode cX5_dropValue 23 = .ok (.iload_n 1, 1)) rfl ?_
    refine g_callV hF lkX5_68 (c_X5_many X hX _ (by omega) _ (by assumption)) (by decide +kernel : decode cX5_dropValue 24 = .ok (.invokevirtual 68, 3)) (by decide) rfl rfl rfl rfl jok51 (Nat.le_of_ble_eq_true rfl) (fun v24 m24 h24 => ?_)
    obtain ⟨rfl, e24⟩ := h24
    obtain rfl := e24.symm
    rw [rk]
    refine g_istore_n hF (by decide +kernel : decode cX5_dropValue 27 = .ok (.istore_n 3, 1)) (by decide) ?_
    refine g_iconst hF (by decide +kernel : decode cX5_dropValue 28 = .ok (.iconst (-1), 1)) ?_
    refine g_istore hF (by decide +kernel : decode cX5_dropValue 29 = .ok (.istore 4, 2)) (by decide) ?_
    have loop : ∀ (n i : Nat) (mm : jM) (k : Int), i ≤ 257 → 258 ≤ i + n → k = i - 1 → mm = mw m19 s (upto (fun z => if mR m s z = v then -2 else mR m s z) (mR m19 s) i) → jG F X mm 31 [(0, vR 2 51), (1, vI s), (2, vI v), (3, vI (cnt (mR m s))), (4, vI k)] [] := by
      intro n
      induction n with
      | zero => intro i mm k h1 h2; exact absurd h2 (by omega)
      | succ n ih =>
        intro i mm k h1 h2 hc0 hc1
        refine g_iload hF (by decide +kernel : decode cX5_dropValue 31 = .ok (.iload 4, 2)) rfl ?_
        refine g_sipush hF (by decide +kernel : decode cX5_dropValue 33 = .ok (.sipush 256, 3)) (by decide) ?_
        refine g_icmp_ge hF (tgt := 65) (by decide +kernel : decode cX5_dropValue 36 = .ok (.if_icmp .ge 29, 3)) (by decide) (by omega) (by omega) (fun c36 => ?_) (fun c36 => ?_)
        · skip
          have hq : eqR (mR mm s) (fun z => if mR m s z = v then -2 else mR m s z) := mw_end (by omega) hc1
          have hg : rowok (fun z => if mR m s z = v then -2 else mR m s z) := rowok_if hr
          have hmo : rowok (mR mm s) := fun z a b => by rw [hq z a b]; exact hg z a b
          refine g_iload_n hF (by decide +kernel : decode cX5_dropValue 65 = .ok (.iload_n 3, 1)) rfl ?_
          refine g_aload_n hF (by decide +kernel : decode cX5_dropValue 66 = .ok (.aload_n 0, 1)) rfl ?_
          refine g_iload_n hF (by decide +kernel : decode cX5_dropValue 67 = .ok (.iload_n 1, 1)) rfl ?_
          refine g_callV hF lkX5_68 (c_X5_many X hX _ (by omega) _ hmo) (by decide +kernel : decode cX5_dropValue 68 = .ok (.invokevirtual 68, 3)) (by decide) rfl rfl rfl rfl jok51 (Nat.le_of_ble_eq_true rfl) (fun v68 m68 h68 => ?_)
          obtain ⟨rfl, e68⟩ := h68
          obtain rfl := e68.symm
          rw [cnt_congr hq]
          refine g_isub hF (by decide +kernel : decode cX5_dropValue 71 = .ok (.isub, 1)) ?_
          refine g_ireturn hF hQ (by decide +kernel : decode cX5_dropValue 72 = .ok (.ireturn, 1)) ?_
          exact ⟨rfl, by rw [← e9]; exact MW_end (by omega) k19 hc1⟩
        · skip
          refine g_aload_n hF (by decide +kernel : decode cX5_dropValue 39 = .ok (.aload_n 0, 1)) rfl ?_
          refine g_iload_n hF (by decide +kernel : decode cX5_dropValue 40 = .ok (.iload_n 1, 1)) rfl ?_
          refine g_iload hF (by decide +kernel : decode cX5_dropValue 41 = .ok (.iload 4, 2)) rfl ?_
          refine g_callV hF lkX5_60 (c_X5_at X hX _ (by omega) _ (show num _ from ⟨by omega, by omega⟩) _) (by decide +kernel : decode cX5_dropValue 43 = .ok (.invokevirtual 60, 3)) (by decide) rfl rfl rfl rfl jok51 (Nat.le_of_ble_eq_true rfl) (fun v43 m43 h43 => ?_)
          obtain ⟨rfl, e43⟩ := h43
          obtain rfl := e43.symm
          rw [show mR mm s (k + 1) = mR m s i by rw [show k + 1 = (i : Int) by omega, hc1, mw_at (by omega), rk]]
          have hb := hr i (by omega) (by omega)
          refine g_iload_n hF (by decide +kernel : decode cX5_dropValue 46 = .ok (.iload_n 2, 1)) rfl ?_
          refine g_icmp_ne hF (tgt := 59) (by decide +kernel : decode cX5_dropValue 47 = .ok (.if_icmp .ne 12, 3)) (by decide) (by omega) (by omega) (fun c47 => ?_) (fun c47 => ?_)
          · skip
            refine g_iinc hF (by decide +kernel : decode cX5_dropValue 59 = .ok (.iinc 4 1, 3)) rfl (by decide) ?_
            refine g_goto hF (tgt := 31) (by decide +kernel : decode cX5_dropValue 62 = .ok (.goto (-31), 3)) (by decide) ?_
            exact ih (i + 1) _ _ (by omega) (by omega) (by omega) (by rw [hc1]; exact mw_skip (by rw [rk]; exact if_neg c47))
          · skip
            refine g_aload_n hF (by decide +kernel : decode cX5_dropValue 50 = .ok (.aload_n 0, 1)) rfl ?_
            refine g_iload_n hF (by decide +kernel : decode cX5_dropValue 51 = .ok (.iload_n 1, 1)) rfl ?_
            refine g_iload hF (by decide +kernel : decode cX5_dropValue 52 = .ok (.iload 4, 2)) rfl ?_
            refine g_bipush hF (by decide +kernel : decode cX5_dropValue 54 = .ok (.bipush (-2), 2)) (by decide) ?_
            refine g_callV hF lkX5_64 (c_X5_sets X hX _ (by omega) _ _ (show num _ from ⟨by omega, by omega⟩) _) (by decide +kernel : decode cX5_dropValue 56 = .ok (.invokevirtual 64, 3)) (by decide) rfl rfl rfl rfl jok51 (Nat.le_of_ble_eq_true rfl) (fun v56 m56 h56 => ?_)
            obtain ⟨rfl, e56⟩ := h56
            refine g_iinc hF (by decide +kernel : decode cX5_dropValue 59 = .ok (.iinc 4 1, 3)) rfl (by decide) ?_
            refine g_goto hF (tgt := 31) (by decide +kernel : decode cX5_dropValue 62 = .ok (.goto (-31), 3)) (by decide) ?_
            exact ih (i + 1) _ _ (by omega) (by omega) (by omega) (by rw [e56, hc1]; exact mw_mark (if_pos c47).symm hc0 (by omega))
    exact loop 258 0 _ (-1) (by omega) (by omega) (by omega) (mw_0 m19 s _).symm
  · skip
    exact absurd c12 (by decide)
set_option maxHeartbeats 4000000 in
set_option maxRecDepth 100000 in
theorem n1_X5_dropValue (X : jX) (hX : jxok X) (s : Int) (js : jr s) (v : Int) (jv : jr v) (m : jM) (h : ¬ (0 ≤ s ∧ s < 8)) : Con X yX5_dropValue cX5_dropValue 5 (some .int) 8 [vR 2 51, vI s, vI v] m (fun o m' => o = some (vI 0) ∧ m' = mset m 51 2 1) := by
  refine Con.of hX (by decide) (Nat.le_of_ble_eq_true rfl) (fun F hF hQ => ?_)
  refine g_aload_n hF (by decide +kernel : decode cX5_dropValue 0 = .ok (.aload_n 0, 1)) rfl ?_
  refine g_aload_n hF (by decide +kernel : decode cX5_dropValue 1 = .ok (.aload_n 0, 1)) rfl ?_
  refine g_iload_n hF (by decide +kernel : decode cX5_dropValue 2 = .ok (.iload_n 1, 1)) rfl ?_
  refine g_iload_n hF (by decide +kernel : decode cX5_dropValue 3 = .ok (.iload_n 2, 1)) rfl ?_
  refine g_iconst hF (by decide +kernel : decode cX5_dropValue 4 = .ok (.iconst 0, 1)) ?_
  refine g_iconst hF (by decide +kernel : decode cX5_dropValue 5 = .ok (.iconst 0, 1)) ?_
  refine g_callV hF lkX5_49 (n1_X5_no X hX _ (by omega) (by omega) _ _ _ _) (by decide +kernel : decode cX5_dropValue 6 = .ok (.invokevirtual 49, 3)) (by decide) rfl rfl rfl rfl jok51 (Nat.le_of_ble_eq_true rfl) (fun v6 m6 h6 => ?_)
  obtain ⟨rfl, e6⟩ := h6
  obtain rfl := e6.symm
  refine g_callV hF lkX5_53 (n_X5_fails X hX _ (by decide) _) (by decide +kernel : decode cX5_dropValue 9 = .ok (.invokevirtual 53, 3)) (by decide) rfl rfl rfl rfl jok51 (Nat.le_of_ble_eq_true rfl) (fun v9 m9 h9 => ?_)
  obtain ⟨rfl, e9⟩ := h9
  obtain rfl := e9.symm
  refine g_if_eq hF (tgt := 17) (by decide +kernel : decode cX5_dropValue 12 = .ok (.ifCond .eq 5, 3)) (by decide) (by omega) (fun c12 => ?_) (fun c12 => ?_)
  · skip
    exact absurd c12 (by decide)
  · skip
    refine g_iconst hF (by decide +kernel : decode cX5_dropValue 15 = .ok (.iconst 0, 1)) ?_
    refine g_ireturn hF hQ (by decide +kernel : decode cX5_dropValue 16 = .ok (.ireturn, 1)) ?_
    exact ⟨rfl, rfl⟩
set_option maxHeartbeats 4000000 in
set_option maxRecDepth 100000 in
theorem n2_X5_dropValue (X : jX) (hX : jxok X) (s : Nat) (hs : s < 8) (v : Int) (jv : jr v) (m : jM) (h : ¬ (num v)) : Con X yX5_dropValue cX5_dropValue 5 (some .int) 8 [vR 2 51, vI s, vI v] m (fun o m' => o = some (vI 0) ∧ m' = mset m 51 2 2) := by
  refine Con.of hX (by decide) (Nat.le_of_ble_eq_true rfl) (fun F hF hQ => ?_)
  refine g_aload_n hF (by decide +kernel : decode cX5_dropValue 0 = .ok (.aload_n 0, 1)) rfl ?_
  refine g_aload_n hF (by decide +kernel : decode cX5_dropValue 1 = .ok (.aload_n 0, 1)) rfl ?_
  refine g_iload_n hF (by decide +kernel : decode cX5_dropValue 2 = .ok (.iload_n 1, 1)) rfl ?_
  refine g_iload_n hF (by decide +kernel : decode cX5_dropValue 3 = .ok (.iload_n 2, 1)) rfl ?_
  refine g_iconst hF (by decide +kernel : decode cX5_dropValue 4 = .ok (.iconst 0, 1)) ?_
  refine g_iconst hF (by decide +kernel : decode cX5_dropValue 5 = .ok (.iconst 0, 1)) ?_
  refine g_callV hF lkX5_49 (n2_X5_no X hX _ (by omega) _ _ _ (by omega) (by omega) (by omega) (fun q => h q.1) _) (by decide +kernel : decode cX5_dropValue 6 = .ok (.invokevirtual 49, 3)) (by decide) rfl rfl rfl rfl jok51 (Nat.le_of_ble_eq_true rfl) (fun v6 m6 h6 => ?_)
  obtain ⟨rfl, e6⟩ := h6
  obtain rfl := e6.symm
  refine g_callV hF lkX5_53 (n_X5_fails X hX _ (by decide) _) (by decide +kernel : decode cX5_dropValue 9 = .ok (.invokevirtual 53, 3)) (by decide) rfl rfl rfl rfl jok51 (Nat.le_of_ble_eq_true rfl) (fun v9 m9 h9 => ?_)
  obtain ⟨rfl, e9⟩ := h9
  obtain rfl := e9.symm
  refine g_if_eq hF (tgt := 17) (by decide +kernel : decode cX5_dropValue 12 = .ok (.ifCond .eq 5, 3)) (by decide) (by omega) (fun c12 => ?_) (fun c12 => ?_)
  · skip
    exact absurd c12 (by decide)
  · skip
    refine g_iconst hF (by decide +kernel : decode cX5_dropValue 15 = .ok (.iconst 0, 1)) ?_
    refine g_ireturn hF hQ (by decide +kernel : decode cX5_dropValue 16 = .ok (.ireturn, 1)) ?_
    exact ⟨rfl, rfl⟩
set_option maxHeartbeats 4000000 in
set_option maxRecDepth 100000 in
theorem c_X5_dropOdd (X : jX) (hX : jxok X) (s : Nat) (hs : s < 8) (m : jM) (hI : MI m) : Con X yX5_dropOdd cX5_dropOdd 4 (some .int) 8 [vR 2 51, vI s] m (fun o m' => o = some (vI (cnt (mR m s) - cnt (fun z => if 0 < mR m s z ∧ jand (mR m s z) 1 = 1 then -2 else mR m s z))) ∧ MW (mset m 51 2 0) s (fun z => if 0 < mR m s z ∧ jand (mR m s z) 1 = 1 then -2 else mR m s z) m') := by
  refine Con.of hX (by decide) (Nat.le_of_ble_eq_true rfl) (fun F hF hQ => ?_)
  have hr := hI.1 s hs
  refine g_aload_n hF (by decide +kernel : decode cX5_dropOdd 0 = .ok (.aload_n 0, 1)) rfl ?_
  refine g_iload_n hF (by decide +kernel : decode cX5_dropOdd 1 = .ok (.iload_n 1, 1)) rfl ?_
  refine g_callS hF lkX5_42 (y_X5_isSlot X hX _ (by omega) (by omega) _) (by decide +kernel : decode cX5_dropOdd 2 = .ok (.invokestatic 42, 3)) (by decide) rfl rfl (Nat.le_of_ble_eq_true rfl) (fun v2 m2 h2 => ?_)
  obtain ⟨rfl, e2⟩ := h2
  obtain rfl := e2.symm
  refine g_if_eq hF (tgt := 12) (by decide +kernel : decode cX5_dropOdd 5 = .ok (.ifCond .eq 7, 3)) (by decide) (by omega) (fun c5 => ?_) (fun c5 => ?_)
  · skip
    exact absurd c5 (by decide)
  · skip
    refine g_iconst hF (by decide +kernel : decode cX5_dropOdd 8 = .ok (.iconst 0, 1)) ?_
    refine g_goto hF (tgt := 13) (by decide +kernel : decode cX5_dropOdd 9 = .ok (.goto 4, 3)) (by decide) ?_
    refine g_callV hF lkX5_53 (y_X5_fails X hX _) (by decide +kernel : decode cX5_dropOdd 13 = .ok (.invokevirtual 53, 3)) (by decide) rfl rfl rfl rfl jok51 (Nat.le_of_ble_eq_true rfl) (fun v13 m13 h13 => ?_)
    obtain ⟨rfl, e13⟩ := h13
    have S0 : MSm m m13 := by rw [e13]; exact MSm_code m (Or.inl rfl) 0
    have I0 := MI_S hI S0
    have z0 : m13 51 2 = 0 := by rw [e13, mset_at]
    have r0 : ∀ t : Nat, mR m13 t = mR m t := fun t => mR_52 (S0.1 52 (by decide) (by decide) (by decide)) t
    refine g_if_eq hF (tgt := 21) (by decide +kernel : decode cX5_dropOdd 16 = .ok (.ifCond .eq 5, 3)) (by decide) (by omega) (fun c16 => ?_) (fun c16 => ?_)
    · skip
      refine g_aload_n hF (by decide +kernel : decode cX5_dropOdd 21 = .ok (.aload_n 0, 1)) rfl ?_
      refine g_iload_n hF (by decide +kernel : decode cX5_dropOdd 22 = .ok (.iload_n 1, 1)) rfl ?_
      refine g_callV hF lkX5_56 (c_X5_keeps X hX _ (by omega) _ (by assumption)) (by decide +kernel : decode cX5_dropOdd 23 = .ok (.invokevirtual 56, 3)) (by decide) rfl rfl rfl rfl jok51 (Nat.le_of_ble_eq_true rfl) (fun v23 m23 h23 => ?_)
      obtain ⟨rfl, k23⟩ := h23
      have I1 := MI_keep hs I0 k23
      have rk : mR m23 s = mR m s := by rw [mR_52 (m_52 k23), r0]
      have hm1 : rowok (mR m23 s) := by rw [rk]; exact hr
      refine g_aload_n hF (by decide +kernel : decode cX5_dropOdd 26 = .ok (.aload_n 0, 1)) rfl ?_
      refine g_iload_n hF (by decide +kernel : decode cX5_dropOdd 27 = .ok (.iload_n 1, 1)) rfl ?_
      refine g_callV hF lkX5_68 (c_X5_many X hX _ (by omega) _ (by assumption)) (by decide +kernel : decode cX5_dropOdd 28 = .ok (.invokevirtual 68, 3)) (by decide) rfl rfl rfl rfl jok51 (Nat.le_of_ble_eq_true rfl) (fun v28 m28 h28 => ?_)
      obtain ⟨rfl, e28⟩ := h28
      obtain rfl := e28.symm
      rw [rk]
      refine g_istore_n hF (by decide +kernel : decode cX5_dropOdd 31 = .ok (.istore_n 2, 1)) (by decide) ?_
      refine g_iconst hF (by decide +kernel : decode cX5_dropOdd 32 = .ok (.iconst (-1), 1)) ?_
      refine g_istore_n hF (by decide +kernel : decode cX5_dropOdd 33 = .ok (.istore_n 3, 1)) (by decide) ?_
      have loop : ∀ (n i : Nat) (mm : jM) (k : Int), i ≤ 257 → 258 ≤ i + n → k = i - 1 → mm = mw m23 s (upto (fun z => if 0 < mR m s z ∧ jand (mR m s z) 1 = 1 then -2 else mR m s z) (mR m23 s) i) → jG F X mm 34 [(0, vR 2 51), (1, vI s), (2, vI (cnt (mR m s))), (3, vI k)] [] := by
        intro n
        induction n with
        | zero => intro i mm k h1 h2; exact absurd h2 (by omega)
        | succ n ih =>
          intro i mm k h1 h2 hc0 hc1
          refine g_iload_n hF (by decide +kernel : decode cX5_dropOdd 34 = .ok (.iload_n 3, 1)) rfl ?_
          refine g_sipush hF (by decide +kernel : decode cX5_dropOdd 35 = .ok (.sipush 256, 3)) (by decide) ?_
          refine g_icmp_ge hF (tgt := 76) (by decide +kernel : decode cX5_dropOdd 38 = .ok (.if_icmp .ge 38, 3)) (by decide) (by omega) (by omega) (fun c38 => ?_) (fun c38 => ?_)
          · skip
            have hq : eqR (mR mm s) (fun z => if 0 < mR m s z ∧ jand (mR m s z) 1 = 1 then -2 else mR m s z) := mw_end (by omega) hc1
            have hg : rowok (fun z => if 0 < mR m s z ∧ jand (mR m s z) 1 = 1 then -2 else mR m s z) := rowok_if hr
            have hmo : rowok (mR mm s) := fun z a b => by rw [hq z a b]; exact hg z a b
            refine g_iload_n hF (by decide +kernel : decode cX5_dropOdd 76 = .ok (.iload_n 2, 1)) rfl ?_
            refine g_aload_n hF (by decide +kernel : decode cX5_dropOdd 77 = .ok (.aload_n 0, 1)) rfl ?_
            refine g_iload_n hF (by decide +kernel : decode cX5_dropOdd 78 = .ok (.iload_n 1, 1)) rfl ?_
            refine g_callV hF lkX5_68 (c_X5_many X hX _ (by omega) _ hmo) (by decide +kernel : decode cX5_dropOdd 79 = .ok (.invokevirtual 68, 3)) (by decide) rfl rfl rfl rfl jok51 (Nat.le_of_ble_eq_true rfl) (fun v79 m79 h79 => ?_)
            obtain ⟨rfl, e79⟩ := h79
            obtain rfl := e79.symm
            rw [cnt_congr hq]
            refine g_isub hF (by decide +kernel : decode cX5_dropOdd 82 = .ok (.isub, 1)) ?_
            refine g_ireturn hF hQ (by decide +kernel : decode cX5_dropOdd 83 = .ok (.ireturn, 1)) ?_
            exact ⟨rfl, by rw [← e13]; exact MW_end (by omega) k23 hc1⟩
          · skip
            refine g_aload_n hF (by decide +kernel : decode cX5_dropOdd 41 = .ok (.aload_n 0, 1)) rfl ?_
            refine g_iload_n hF (by decide +kernel : decode cX5_dropOdd 42 = .ok (.iload_n 1, 1)) rfl ?_
            refine g_iload_n hF (by decide +kernel : decode cX5_dropOdd 43 = .ok (.iload_n 3, 1)) rfl ?_
            refine g_callV hF lkX5_60 (c_X5_at X hX _ (by omega) _ (show num _ from ⟨by omega, by omega⟩) _) (by decide +kernel : decode cX5_dropOdd 44 = .ok (.invokevirtual 60, 3)) (by decide) rfl rfl rfl rfl jok51 (Nat.le_of_ble_eq_true rfl) (fun v44 m44 h44 => ?_)
            obtain ⟨rfl, e44⟩ := h44
            obtain rfl := e44.symm
            rw [show mR mm s (k + 1) = mR m s i by rw [show k + 1 = (i : Int) by omega, hc1, mw_at (by omega), rk]]
            have hb := hr i (by omega) (by omega)
            refine g_if_le hF (tgt := 70) (by decide +kernel : decode cX5_dropOdd 47 = .ok (.ifCond .le 23, 3)) (by decide) (by omega) (fun c47 => ?_) (fun c47 => ?_)
            · skip
              refine g_iinc hF (by decide +kernel : decode cX5_dropOdd 70 = .ok (.iinc 3 1, 3)) rfl (by decide) ?_
              refine g_goto hF (tgt := 34) (by decide +kernel : decode cX5_dropOdd 73 = .ok (.goto (-39), 3)) (by decide) ?_
              exact ih (i + 1) _ _ (by omega) (by omega) (by omega) (by rw [hc1]; exact mw_skip (by rw [rk]; exact if_neg (fun q => absurd q.1 (by omega))))
            · skip
              refine g_aload_n hF (by decide +kernel : decode cX5_dropOdd 50 = .ok (.aload_n 0, 1)) rfl ?_
              refine g_iload_n hF (by decide +kernel : decode cX5_dropOdd 51 = .ok (.iload_n 1, 1)) rfl ?_
              refine g_iload_n hF (by decide +kernel : decode cX5_dropOdd 52 = .ok (.iload_n 3, 1)) rfl ?_
              refine g_callV hF lkX5_60 (c_X5_at X hX _ (by omega) _ (show num _ from ⟨by omega, by omega⟩) _) (by decide +kernel : decode cX5_dropOdd 53 = .ok (.invokevirtual 60, 3)) (by decide) rfl rfl rfl rfl jok51 (Nat.le_of_ble_eq_true rfl) (fun v53 m53 h53 => ?_)
              obtain ⟨rfl, e53⟩ := h53
              obtain rfl := e53.symm
              rw [show mR mm s (k + 1) = mR m s i by rw [show k + 1 = (i : Int) by omega, hc1, mw_at (by omega), rk]]
              have hb := hr i (by omega) (by omega)
              refine g_iconst hF (by decide +kernel : decode cX5_dropOdd 56 = .ok (.iconst 2, 1)) ?_
              refine g_irem hF (by decide +kernel : decode cX5_dropOdd 57 = .ok (.irem, 1)) (by omega) (by omega) ?_
              refine g_iconst hF (by decide +kernel : decode cX5_dropOdd 58 = .ok (.iconst 1, 1)) ?_
              refine g_icmp_ne hF (tgt := 70) (by decide +kernel : decode cX5_dropOdd 59 = .ok (.if_icmp .ne 11, 3)) (by decide) (by have := tmod_b (a := mR m s i) (b := 2) (by omega) (by decide); omega) (by have := tmod_b (a := mR m s i) (b := 2) (by omega) (by decide); omega) (fun c59 => ?_) (fun c59 => ?_)
              · skip
                refine g_iinc hF (by decide +kernel : decode cX5_dropOdd 70 = .ok (.iinc 3 1, 3)) rfl (by decide) ?_
                refine g_goto hF (tgt := 34) (by decide +kernel : decode cX5_dropOdd 73 = .ok (.goto (-39), 3)) (by decide) ?_
                exact ih (i + 1) _ _ (by omega) (by omega) (by omega) (by rw [hc1]; exact mw_skip (by rw [rk]; exact if_neg (fun q => c59 (by rw [← jand_t ⟨by omega, by omega⟩]; exact q.2))))
              · skip
                refine g_aload_n hF (by decide +kernel : decode cX5_dropOdd 62 = .ok (.aload_n 0, 1)) rfl ?_
                refine g_iload_n hF (by decide +kernel : decode cX5_dropOdd 63 = .ok (.iload_n 1, 1)) rfl ?_
                refine g_iload_n hF (by decide +kernel : decode cX5_dropOdd 64 = .ok (.iload_n 3, 1)) rfl ?_
                refine g_bipush hF (by decide +kernel : decode cX5_dropOdd 65 = .ok (.bipush (-2), 2)) (by decide) ?_
                refine g_callV hF lkX5_64 (c_X5_sets X hX _ (by omega) _ _ (show num _ from ⟨by omega, by omega⟩) _) (by decide +kernel : decode cX5_dropOdd 67 = .ok (.invokevirtual 64, 3)) (by decide) rfl rfl rfl rfl jok51 (Nat.le_of_ble_eq_true rfl) (fun v67 m67 h67 => ?_)
                obtain ⟨rfl, e67⟩ := h67
                refine g_iinc hF (by decide +kernel : decode cX5_dropOdd 70 = .ok (.iinc 3 1, 3)) rfl (by decide) ?_
                refine g_goto hF (tgt := 34) (by decide +kernel : decode cX5_dropOdd 73 = .ok (.goto (-39), 3)) (by decide) ?_
                exact ih (i + 1) _ _ (by omega) (by omega) (by omega) (by rw [e67, hc1]; exact mw_mark (if_pos ⟨by omega, by rw [jand_t ⟨by omega, by omega⟩]; exact c59⟩).symm hc0 (by omega))
      exact loop 258 0 _ (-1) (by omega) (by omega) (by omega) (mw_0 m23 s _).symm
    · skip
      exact absurd c16 (by decide)
set_option maxHeartbeats 4000000 in
set_option maxRecDepth 100000 in
theorem n1_X5_dropOdd (X : jX) (hX : jxok X) (s : Int) (js : jr s) (m : jM) (h : ¬ (0 ≤ s ∧ s < 8)) : Con X yX5_dropOdd cX5_dropOdd 4 (some .int) 8 [vR 2 51, vI s] m (fun o m' => o = some (vI 0) ∧ m' = mset m 51 2 1) := by
  refine Con.of hX (by decide) (Nat.le_of_ble_eq_true rfl) (fun F hF hQ => ?_)
  refine g_aload_n hF (by decide +kernel : decode cX5_dropOdd 0 = .ok (.aload_n 0, 1)) rfl ?_
  refine g_iload_n hF (by decide +kernel : decode cX5_dropOdd 1 = .ok (.iload_n 1, 1)) rfl ?_
  refine g_callS hF lkX5_42 (n_X5_isSlot X hX _ (by omega) (by omega) _) (by decide +kernel : decode cX5_dropOdd 2 = .ok (.invokestatic 42, 3)) (by decide) rfl rfl (Nat.le_of_ble_eq_true rfl) (fun v2 m2 h2 => ?_)
  obtain ⟨rfl, e2⟩ := h2
  obtain rfl := e2.symm
  refine g_if_eq hF (tgt := 12) (by decide +kernel : decode cX5_dropOdd 5 = .ok (.ifCond .eq 7, 3)) (by decide) (by omega) (fun c5 => ?_) (fun c5 => ?_)
  · skip
    refine g_iconst hF (by decide +kernel : decode cX5_dropOdd 12 = .ok (.iconst 1, 1)) ?_
    refine g_callV hF lkX5_53 (n_X5_fails X hX _ (by decide) _) (by decide +kernel : decode cX5_dropOdd 13 = .ok (.invokevirtual 53, 3)) (by decide) rfl rfl rfl rfl jok51 (Nat.le_of_ble_eq_true rfl) (fun v13 m13 h13 => ?_)
    obtain ⟨rfl, e13⟩ := h13
    obtain rfl := e13.symm
    refine g_if_eq hF (tgt := 21) (by decide +kernel : decode cX5_dropOdd 16 = .ok (.ifCond .eq 5, 3)) (by decide) (by omega) (fun c16 => ?_) (fun c16 => ?_)
    · skip
      exact absurd c16 (by decide)
    · skip
      refine g_iconst hF (by decide +kernel : decode cX5_dropOdd 19 = .ok (.iconst 0, 1)) ?_
      refine g_ireturn hF hQ (by decide +kernel : decode cX5_dropOdd 20 = .ok (.ireturn, 1)) ?_
      exact ⟨rfl, rfl⟩
  · skip
    exact absurd c5 (by decide)
set_option maxHeartbeats 4000000 in
set_option maxRecDepth 100000 in
theorem c_X5_shift (X : jX) (hX : jxok X) (s : Nat) (hs : s < 8) (b : Int) (hb : 0 ≤ b ∧ b ≤ 255) (m : jM) (hI : MI m) : Con X yX5_shift cX5_shift 6 (some .int) 8 [vR 2 51, vI s, vI b] m (fun o m' => o = some (vI (sumN (fun z => if mR m s z < 0 then 0 else if wr (mR m s z + b) = mR m s z then 0 else 1) 257)) ∧ MW (mset m 51 2 0) s (fun z => if mR m s z < 0 then mR m s z else wr (mR m s z + b)) m') := by
  refine Con.of hX (by decide) (Nat.le_of_ble_eq_true rfl) (fun F hF hQ => ?_)
  have hr := hI.1 s hs
  refine g_aload_n hF (by decide +kernel : decode cX5_shift 0 = .ok (.aload_n 0, 1)) rfl ?_
  refine g_iload_n hF (by decide +kernel : decode cX5_shift 1 = .ok (.iload_n 1, 1)) rfl ?_
  refine g_callS hF lkX5_42 (y_X5_isSlot X hX _ (by omega) (by omega) _) (by decide +kernel : decode cX5_shift 2 = .ok (.invokestatic 42, 3)) (by decide) rfl rfl (Nat.le_of_ble_eq_true rfl) (fun v2 m2 h2 => ?_)
  obtain ⟨rfl, e2⟩ := h2
  obtain rfl := e2.symm
  refine g_if_ne hF (tgt := 12) (by decide +kernel : decode cX5_shift 5 = .ok (.ifCond .ne 7, 3)) (by decide) (by omega) (fun c5 => ?_) (fun c5 => ?_)
  · skip
    refine g_iload_n hF (by decide +kernel : decode cX5_shift 12 = .ok (.iload_n 2, 1)) rfl ?_
    refine g_iconst hF (by decide +kernel : decode cX5_shift 13 = .ok (.iconst 0, 1)) ?_
    refine g_sipush hF (by decide +kernel : decode cX5_shift 14 = .ok (.sipush 255, 3)) (by decide) ?_
    refine g_callS hF lkX5_35 (y_X5_in X hX _ _ _ (by omega) (by omega) (by omega) (by omega) _) (by decide +kernel : decode cX5_shift 17 = .ok (.invokestatic 35, 3)) (by decide) rfl rfl (Nat.le_of_ble_eq_true rfl) (fun v17 m17 h17 => ?_)
    obtain ⟨rfl, e17⟩ := h17
    obtain rfl := e17.symm
    refine g_if_eq hF (tgt := 27) (by decide +kernel : decode cX5_shift 20 = .ok (.ifCond .eq 7, 3)) (by decide) (by omega) (fun c20 => ?_) (fun c20 => ?_)
    · skip
      exact absurd c20 (by decide)
    · skip
      refine g_iconst hF (by decide +kernel : decode cX5_shift 23 = .ok (.iconst 0, 1)) ?_
      refine g_goto hF (tgt := 28) (by decide +kernel : decode cX5_shift 24 = .ok (.goto 4, 3)) (by decide) ?_
      refine g_callV hF lkX5_53 (y_X5_fails X hX _) (by decide +kernel : decode cX5_shift 28 = .ok (.invokevirtual 53, 3)) (by decide) rfl rfl rfl rfl jok51 (Nat.le_of_ble_eq_true rfl) (fun v28 m28 h28 => ?_)
      obtain ⟨rfl, e28⟩ := h28
      have S0 : MSm m m28 := by rw [e28]; exact MSm_code m (Or.inl rfl) 0
      have I0 := MI_S hI S0
      have z0 : m28 51 2 = 0 := by rw [e28, mset_at]
      have r0 : ∀ t : Nat, mR m28 t = mR m t := fun t => mR_52 (S0.1 52 (by decide) (by decide) (by decide)) t
      refine g_if_eq hF (tgt := 36) (by decide +kernel : decode cX5_shift 31 = .ok (.ifCond .eq 5, 3)) (by decide) (by omega) (fun c31 => ?_) (fun c31 => ?_)
      · skip
        refine g_aload_n hF (by decide +kernel : decode cX5_shift 36 = .ok (.aload_n 0, 1)) rfl ?_
        refine g_iload_n hF (by decide +kernel : decode cX5_shift 37 = .ok (.iload_n 1, 1)) rfl ?_
        refine g_callV hF lkX5_56 (c_X5_keeps X hX _ (by omega) _ (by assumption)) (by decide +kernel : decode cX5_shift 38 = .ok (.invokevirtual 56, 3)) (by decide) rfl rfl rfl rfl jok51 (Nat.le_of_ble_eq_true rfl) (fun v38 m38 h38 => ?_)
        obtain ⟨rfl, k38⟩ := h38
        have I1 := MI_keep hs I0 k38
        have rk : mR m38 s = mR m s := by rw [mR_52 (m_52 k38), r0]
        have hm1 : rowok (mR m38 s) := by rw [rk]; exact hr
        refine g_iconst hF (by decide +kernel : decode cX5_shift 41 = .ok (.iconst 0, 1)) ?_
        refine g_istore_n hF (by decide +kernel : decode cX5_shift 42 = .ok (.istore_n 3, 1)) (by decide) ?_
        refine g_iconst hF (by decide +kernel : decode cX5_shift 43 = .ok (.iconst (-1), 1)) ?_
        refine g_istore hF (by decide +kernel : decode cX5_shift 44 = .ok (.istore 4, 2)) (by decide) ?_
        have loop : ∀ (n i : Nat) (mm : jM) (k : Int) (a : Int), i ≤ 257 → 258 ≤ i + n → k = i - 1 → mm = mw m38 s (upto (fun z => if mR m s z < 0 then mR m s z else wr (mR m s z + b)) (mR m38 s) i) → a = sumN (fun z => if mR m s z < 0 then 0 else if wr (mR m s z + b) = mR m s z then 0 else 1) i → jG F X mm 46 [(0, vR 2 51), (1, vI s), (2, vI b), (3, vI a), (4, vI k)] [] := by
          intro n
          induction n with
          | zero => intro i mm k a h1 h2; exact absurd h2 (by omega)
          | succ n ih =>
            intro i mm k a h1 h2 hc0 hc1 hc2
            refine g_iload hF (by decide +kernel : decode cX5_shift 46 = .ok (.iload 4, 2)) rfl ?_
            refine g_sipush hF (by decide +kernel : decode cX5_shift 48 = .ok (.sipush 256, 3)) (by decide) ?_
            refine g_icmp_ge hF (tgt := 104) (by decide +kernel : decode cX5_shift 51 = .ok (.if_icmp .ge 53, 3)) (by decide) (by omega) (by omega) (fun c51 => ?_) (fun c51 => ?_)
            · skip
              refine g_iload_n hF (by decide +kernel : decode cX5_shift 104 = .ok (.iload_n 3, 1)) rfl ?_
              refine g_ireturn hF hQ (by decide +kernel : decode cX5_shift 105 = .ok (.ireturn, 1)) ?_
              exact ⟨by rw [hc2, show i = 257 by omega], by rw [← e28]; exact MW_end (by omega) k38 hc1⟩
            · skip
              refine g_aload_n hF (by decide +kernel : decode cX5_shift 54 = .ok (.aload_n 0, 1)) rfl ?_
              refine g_iload_n hF (by decide +kernel : decode cX5_shift 55 = .ok (.iload_n 1, 1)) rfl ?_
              refine g_iload hF (by decide +kernel : decode cX5_shift 56 = .ok (.iload 4, 2)) rfl ?_
              refine g_callV hF lkX5_60 (c_X5_at X hX _ (by omega) _ (show num _ from ⟨by omega, by omega⟩) _) (by decide +kernel : decode cX5_shift 58 = .ok (.invokevirtual 60, 3)) (by decide) rfl rfl rfl rfl jok51 (Nat.le_of_ble_eq_true rfl) (fun v58 m58 h58 => ?_)
              obtain ⟨rfl, e58⟩ := h58
              obtain rfl := e58.symm
              rw [show mR mm s (k + 1) = mR m s i by rw [show k + 1 = (i : Int) by omega, hc1, mw_at (by omega), rk]]
              have hb2 := hr i (by omega) (by omega)
              refine g_istore hF (by decide +kernel : decode cX5_shift 61 = .ok (.istore 5, 2)) (by decide) ?_
              refine g_iload hF (by decide +kernel : decode cX5_shift 63 = .ok (.iload 5, 2)) rfl ?_
              refine g_if_ge hF (tgt := 71) (by decide +kernel : decode cX5_shift 65 = .ok (.ifCond .ge 6, 3)) (by decide) (by omega) (fun c65 => ?_) (fun c65 => ?_)
              · skip
                refine g_iload_n hF (by decide +kernel : decode cX5_shift 71 = .ok (.iload_n 3, 1)) rfl ?_
                refine g_iload_n hF (by decide +kernel : decode cX5_shift 72 = .ok (.iload_n 2, 1)) rfl ?_
                refine g_if_le hF (tgt := 80) (by decide +kernel : decode cX5_shift 73 = .ok (.ifCond .le 7, 3)) (by decide) (by omega) (fun c73 => ?_) (fun c73 => ?_)
                · skip
                  refine g_iconst hF (by decide +kernel : decode cX5_shift 80 = .ok (.iconst 0, 1)) ?_
                  refine g_iadd hF (by decide +kernel : decode cX5_shift 81 = .ok (.iadd, 1)) ?_
                  refine g_istore_n hF (by decide +kernel : decode cX5_shift 82 = .ok (.istore_n 3, 1)) (by decide) ?_
                  refine g_aload_n hF (by decide +kernel : decode cX5_shift 83 = .ok (.aload_n 0, 1)) rfl ?_
                  refine g_iload_n hF (by decide +kernel : decode cX5_shift 84 = .ok (.iload_n 1, 1)) rfl ?_
                  refine g_iload hF (by decide +kernel : decode cX5_shift 85 = .ok (.iload 4, 2)) rfl ?_
                  refine g_iload hF (by decide +kernel : decode cX5_shift 87 = .ok (.iload 5, 2)) rfl ?_
                  refine g_iload_n hF (by decide +kernel : decode cX5_shift 89 = .ok (.iload_n 2, 1)) rfl ?_
                  refine g_iadd hF (by decide +kernel : decode cX5_shift 90 = .ok (.iadd, 1)) ?_
                  refine g_sipush hF (by decide +kernel : decode cX5_shift 91 = .ok (.sipush 256, 3)) (by decide) ?_
                  refine g_irem hF (by decide +kernel : decode cX5_shift 94 = .ok (.irem, 1)) (by omega) (by omega) ?_
                  refine g_callV hF lkX5_64 (c_X5_sets X hX _ (by omega) _ _ (show num _ from ⟨by omega, by omega⟩) _) (by decide +kernel : decode cX5_shift 95 = .ok (.invokevirtual 64, 3)) (by decide) rfl rfl rfl rfl jok51 (Nat.le_of_ble_eq_true rfl) (fun v95 m95 h95 => ?_)
                  obtain ⟨rfl, e95⟩ := h95
                  refine g_iinc hF (by decide +kernel : decode cX5_shift 98 = .ok (.iinc 4 1, 3)) rfl (by decide) ?_
                  refine g_goto hF (tgt := 46) (by decide +kernel : decode cX5_shift 101 = .ok (.goto (-55), 3)) (by decide) ?_
                  refine g_take 5 ?_
                  exact ih (i + 1) _ _ _ (by omega) (by omega) (by omega) (by rw [e95, hc1]; exact mw_mark (by show _ = if mR m s i < 0 then mR m s i else wr (mR m s i + b); rw [if_neg (by omega)]; exact wr_mod (by omega)) hc0 (by omega)) (by rw [hc2, sumN_s, if_neg (by omega), if_pos (by unfold wr; rw [if_neg (by omega)]; omega)])
                · skip
                  refine g_iconst hF (by decide +kernel : decode cX5_shift 76 = .ok (.iconst 1, 1)) ?_
                  refine g_goto hF (tgt := 81) (by decide +kernel : decode cX5_shift 77 = .ok (.goto 4, 3)) (by decide) ?_
                  refine g_iadd hF (by decide +kernel : decode cX5_shift 81 = .ok (.iadd, 1)) ?_
                  refine g_istore_n hF (by decide +kernel : decode cX5_shift 82 = .ok (.istore_n 3, 1)) (by decide) ?_
                  refine g_aload_n hF (by decide +kernel : decode cX5_shift 83 = .ok (.aload_n 0, 1)) rfl ?_
                  refine g_iload_n hF (by decide +kernel : decode cX5_shift 84 = .ok (.iload_n 1, 1)) rfl ?_
                  refine g_iload hF (by decide +kernel : decode cX5_shift 85 = .ok (.iload 4, 2)) rfl ?_
                  refine g_iload hF (by decide +kernel : decode cX5_shift 87 = .ok (.iload 5, 2)) rfl ?_
                  refine g_iload_n hF (by decide +kernel : decode cX5_shift 89 = .ok (.iload_n 2, 1)) rfl ?_
                  refine g_iadd hF (by decide +kernel : decode cX5_shift 90 = .ok (.iadd, 1)) ?_
                  refine g_sipush hF (by decide +kernel : decode cX5_shift 91 = .ok (.sipush 256, 3)) (by decide) ?_
                  refine g_irem hF (by decide +kernel : decode cX5_shift 94 = .ok (.irem, 1)) (by omega) (by omega) ?_
                  refine g_callV hF lkX5_64 (c_X5_sets X hX _ (by omega) _ _ (show num _ from ⟨by omega, by omega⟩) _) (by decide +kernel : decode cX5_shift 95 = .ok (.invokevirtual 64, 3)) (by decide) rfl rfl rfl rfl jok51 (Nat.le_of_ble_eq_true rfl) (fun v95 m95 h95 => ?_)
                  obtain ⟨rfl, e95⟩ := h95
                  refine g_iinc hF (by decide +kernel : decode cX5_shift 98 = .ok (.iinc 4 1, 3)) rfl (by decide) ?_
                  refine g_goto hF (tgt := 46) (by decide +kernel : decode cX5_shift 101 = .ok (.goto (-55), 3)) (by decide) ?_
                  refine g_take 5 ?_
                  exact ih (i + 1) _ _ _ (by omega) (by omega) (by omega) (by rw [e95, hc1]; exact mw_mark (by show _ = if mR m s i < 0 then mR m s i else wr (mR m s i + b); rw [if_neg (by omega)]; exact wr_mod (by omega)) hc0 (by omega)) (by rw [hc2, sumN_s, if_neg (by omega), if_neg (by unfold wr; split <;> omega)])
              · skip
                refine g_goto hF (tgt := 98) (by decide +kernel : decode cX5_shift 68 = .ok (.goto 30, 3)) (by decide) ?_
                refine g_iinc hF (by decide +kernel : decode cX5_shift 98 = .ok (.iinc 4 1, 3)) rfl (by decide) ?_
                refine g_goto hF (tgt := 46) (by decide +kernel : decode cX5_shift 101 = .ok (.goto (-55), 3)) (by decide) ?_
                refine g_take 5 ?_
                exact ih (i + 1) _ _ _ (by omega) (by omega) (by omega) (by rw [hc1]; exact mw_skip (by rw [rk]; exact if_pos (by omega))) (by rw [hc2, sumN_s, if_pos (by omega)]; omega)
        exact loop 258 0 _ (-1) 0 (by omega) (by omega) (by omega) (mw_0 m38 s _).symm (sumN_0 _).symm
      · skip
        exact absurd c31 (by decide)
  · skip
    exact absurd c5 (by decide)
set_option maxHeartbeats 4000000 in
set_option maxRecDepth 100000 in
theorem n1_X5_shift (X : jX) (hX : jxok X) (s : Int) (js : jr s) (b : Int) (jb : jr b) (m : jM) (h : ¬ (0 ≤ s ∧ s < 8)) : Con X yX5_shift cX5_shift 6 (some .int) 8 [vR 2 51, vI s, vI b] m (fun o m' => o = some (vI 0) ∧ m' = mset m 51 2 1) := by
  refine Con.of hX (by decide) (Nat.le_of_ble_eq_true rfl) (fun F hF hQ => ?_)
  refine g_aload_n hF (by decide +kernel : decode cX5_shift 0 = .ok (.aload_n 0, 1)) rfl ?_
  refine g_iload_n hF (by decide +kernel : decode cX5_shift 1 = .ok (.iload_n 1, 1)) rfl ?_
  refine g_callS hF lkX5_42 (n_X5_isSlot X hX _ (by omega) (by omega) _) (by decide +kernel : decode cX5_shift 2 = .ok (.invokestatic 42, 3)) (by decide) rfl rfl (Nat.le_of_ble_eq_true rfl) (fun v2 m2 h2 => ?_)
  obtain ⟨rfl, e2⟩ := h2
  obtain rfl := e2.symm
  refine g_if_ne hF (tgt := 12) (by decide +kernel : decode cX5_shift 5 = .ok (.ifCond .ne 7, 3)) (by decide) (by omega) (fun c5 => ?_) (fun c5 => ?_)
  · skip
    exact absurd c5 (by decide)
  · skip
    refine g_iconst hF (by decide +kernel : decode cX5_shift 8 = .ok (.iconst 1, 1)) ?_
    refine g_goto hF (tgt := 28) (by decide +kernel : decode cX5_shift 9 = .ok (.goto 19, 3)) (by decide) ?_
    refine g_callV hF lkX5_53 (n_X5_fails X hX _ (by decide) _) (by decide +kernel : decode cX5_shift 28 = .ok (.invokevirtual 53, 3)) (by decide) rfl rfl rfl rfl jok51 (Nat.le_of_ble_eq_true rfl) (fun v28 m28 h28 => ?_)
    obtain ⟨rfl, e28⟩ := h28
    obtain rfl := e28.symm
    refine g_if_eq hF (tgt := 36) (by decide +kernel : decode cX5_shift 31 = .ok (.ifCond .eq 5, 3)) (by decide) (by omega) (fun c31 => ?_) (fun c31 => ?_)
    · skip
      exact absurd c31 (by decide)
    · skip
      refine g_iconst hF (by decide +kernel : decode cX5_shift 34 = .ok (.iconst 0, 1)) ?_
      refine g_ireturn hF hQ (by decide +kernel : decode cX5_shift 35 = .ok (.ireturn, 1)) ?_
      exact ⟨rfl, rfl⟩
set_option maxHeartbeats 4000000 in
set_option maxRecDepth 100000 in
theorem n2_X5_shift (X : jX) (hX : jxok X) (s : Nat) (hs : s < 8) (b : Int) (jb : jr b) (m : jM) (h : ¬ (0 ≤ b ∧ b ≤ 255)) : Con X yX5_shift cX5_shift 6 (some .int) 8 [vR 2 51, vI s, vI b] m (fun o m' => o = some (vI 0) ∧ m' = mset m 51 2 2) := by
  refine Con.of hX (by decide) (Nat.le_of_ble_eq_true rfl) (fun F hF hQ => ?_)
  refine g_aload_n hF (by decide +kernel : decode cX5_shift 0 = .ok (.aload_n 0, 1)) rfl ?_
  refine g_iload_n hF (by decide +kernel : decode cX5_shift 1 = .ok (.iload_n 1, 1)) rfl ?_
  refine g_callS hF lkX5_42 (y_X5_isSlot X hX _ (by omega) (by omega) _) (by decide +kernel : decode cX5_shift 2 = .ok (.invokestatic 42, 3)) (by decide) rfl rfl (Nat.le_of_ble_eq_true rfl) (fun v2 m2 h2 => ?_)
  obtain ⟨rfl, e2⟩ := h2
  obtain rfl := e2.symm
  refine g_if_ne hF (tgt := 12) (by decide +kernel : decode cX5_shift 5 = .ok (.ifCond .ne 7, 3)) (by decide) (by omega) (fun c5 => ?_) (fun c5 => ?_)
  · skip
    refine g_iload_n hF (by decide +kernel : decode cX5_shift 12 = .ok (.iload_n 2, 1)) rfl ?_
    refine g_iconst hF (by decide +kernel : decode cX5_shift 13 = .ok (.iconst 0, 1)) ?_
    refine g_sipush hF (by decide +kernel : decode cX5_shift 14 = .ok (.sipush 255, 3)) (by decide) ?_
    refine g_callS hF lkX5_35 (n_X5_in X hX _ _ _ (by omega) (by omega) (by omega) (by omega) _) (by decide +kernel : decode cX5_shift 17 = .ok (.invokestatic 35, 3)) (by decide) rfl rfl (Nat.le_of_ble_eq_true rfl) (fun v17 m17 h17 => ?_)
    obtain ⟨rfl, e17⟩ := h17
    obtain rfl := e17.symm
    refine g_if_eq hF (tgt := 27) (by decide +kernel : decode cX5_shift 20 = .ok (.ifCond .eq 7, 3)) (by decide) (by omega) (fun c20 => ?_) (fun c20 => ?_)
    · skip
      refine g_iconst hF (by decide +kernel : decode cX5_shift 27 = .ok (.iconst 2, 1)) ?_
      refine g_callV hF lkX5_53 (n_X5_fails X hX _ (by decide) _) (by decide +kernel : decode cX5_shift 28 = .ok (.invokevirtual 53, 3)) (by decide) rfl rfl rfl rfl jok51 (Nat.le_of_ble_eq_true rfl) (fun v28 m28 h28 => ?_)
      obtain ⟨rfl, e28⟩ := h28
      obtain rfl := e28.symm
      refine g_if_eq hF (tgt := 36) (by decide +kernel : decode cX5_shift 31 = .ok (.ifCond .eq 5, 3)) (by decide) (by omega) (fun c31 => ?_) (fun c31 => ?_)
      · skip
        exact absurd c31 (by decide)
      · skip
        refine g_iconst hF (by decide +kernel : decode cX5_shift 34 = .ok (.iconst 0, 1)) ?_
        refine g_ireturn hF hQ (by decide +kernel : decode cX5_shift 35 = .ok (.ireturn, 1)) ?_
        exact ⟨rfl, rfl⟩
    · skip
      exact absurd c20 (by decide)
  · skip
    exact absurd c5 (by decide)
set_option maxHeartbeats 4000000 in
set_option maxRecDepth 100000 in
theorem c_X5_copy (X : jX) (hX : jxok X) (s : Nat) (hs : s < 8) (u : Nat) (hu : u < 8) (m : jM) (hI : MI m) : Con X yX5_copy cX5_copy 4 (some .int) 8 [vR 2 51, vI s, vI u] m (fun o m' => o = some (vI (cnt (mR m s))) ∧ MW (mset m 51 2 0) u (mR m s) m') := by
  refine Con.of hX (by decide) (Nat.le_of_ble_eq_true rfl) (fun F hF hQ => ?_)
  have hr := hI.1 s hs
  have hr2 := hI.1 u hu
  refine g_aload_n hF (by decide +kernel : decode cX5_copy 0 = .ok (.aload_n 0, 1)) rfl ?_
  refine g_iload_n hF (by decide +kernel : decode cX5_copy 1 = .ok (.iload_n 1, 1)) rfl ?_
  refine g_callS hF lkX5_42 (y_X5_isSlot X hX _ (by omega) (by omega) _) (by decide +kernel : decode cX5_copy 2 = .ok (.invokestatic 42, 3)) (by decide) rfl rfl (Nat.le_of_ble_eq_true rfl) (fun v2 m2 h2 => ?_)
  obtain ⟨rfl, e2⟩ := h2
  obtain rfl := e2.symm
  refine g_if_eq hF (tgt := 19) (by decide +kernel : decode cX5_copy 5 = .ok (.ifCond .eq 14, 3)) (by decide) (by omega) (fun c5 => ?_) (fun c5 => ?_)
  · skip
    exact absurd c5 (by decide)
  · skip
    refine g_iload_n hF (by decide +kernel : decode cX5_copy 8 = .ok (.iload_n 2, 1)) rfl ?_
    refine g_callS hF lkX5_42 (y_X5_isSlot X hX _ (by omega) (by omega) _) (by decide +kernel : decode cX5_copy 9 = .ok (.invokestatic 42, 3)) (by decide) rfl rfl (Nat.le_of_ble_eq_true rfl) (fun v9 m9 h9 => ?_)
    obtain ⟨rfl, e9⟩ := h9
    obtain rfl := e9.symm
    refine g_if_eq hF (tgt := 19) (by decide +kernel : decode cX5_copy 12 = .ok (.ifCond .eq 7, 3)) (by decide) (by omega) (fun c12 => ?_) (fun c12 => ?_)
    · skip
      exact absurd c12 (by decide)
    · skip
      refine g_iconst hF (by decide +kernel : decode cX5_copy 15 = .ok (.iconst 0, 1)) ?_
      refine g_goto hF (tgt := 20) (by decide +kernel : decode cX5_copy 16 = .ok (.goto 4, 3)) (by decide) ?_
      refine g_callV hF lkX5_53 (y_X5_fails X hX _) (by decide +kernel : decode cX5_copy 20 = .ok (.invokevirtual 53, 3)) (by decide) rfl rfl rfl rfl jok51 (Nat.le_of_ble_eq_true rfl) (fun v20 m20 h20 => ?_)
      obtain ⟨rfl, e20⟩ := h20
      have S0 : MSm m m20 := by rw [e20]; exact MSm_code m (Or.inl rfl) 0
      have I0 := MI_S hI S0
      have z0 : m20 51 2 = 0 := by rw [e20, mset_at]
      have r0 : ∀ t : Nat, mR m20 t = mR m t := fun t => mR_52 (S0.1 52 (by decide) (by decide) (by decide)) t
      refine g_if_eq hF (tgt := 28) (by decide +kernel : decode cX5_copy 23 = .ok (.ifCond .eq 5, 3)) (by decide) (by omega) (fun c23 => ?_) (fun c23 => ?_)
      · skip
        refine g_iconst hF (by decide +kernel : decode cX5_copy 28 = .ok (.iconst 0, 1)) ?_
        refine g_istore_n hF (by decide +kernel : decode cX5_copy 29 = .ok (.istore_n 3, 1)) (by decide) ?_
        have loop : ∀ (n i : Nat) (mm : jM), i ≤ 257 → 258 ≤ i + n → mm = mrow m20 53 (upto (mR m s) (m20 53) i) → jG F X mm 30 [(0, vR 2 51), (1, vI s), (2, vI u), (3, vI i)] [] := by
          intro n
          induction n with
          | zero => intro i mm h1 h2; exact absurd h2 (by omega)
          | succ n ih =>
            intro i mm h1 h2 hc0
            have x52 : ∀ t : Nat, mm 52 (257 * (t : Int) + i) = mR m t i := fun t => by rw [hc0, mrow_ne (by decide)]; exact congrFun (r0 t) i
            have xR : ∀ t : Nat, mR mm t = mR m t := fun t => by rw [← r0]; exact mR_52 (by rw [hc0, mrow_ne (by decide)]) t
            refine g_iload_n hF (by decide +kernel : decode cX5_copy 30 = .ok (.iload_n 3, 1)) rfl ?_
            refine g_sipush hF (by decide +kernel : decode cX5_copy 31 = .ok (.sipush 257, 3)) (by decide) ?_
            refine g_icmp_ge hF (tgt := 61) (by decide +kernel : decode cX5_copy 34 = .ok (.if_icmp .ge 27, 3)) (by decide) (by omega) (by omega) (fun c34 => ?_) (fun c34 => ?_)
            · skip
              refine jG_m hc0 ?_
              obtain rfl : i = 257 := by omega
              refine g_eqv (mrow_eqv rfl upto_all) ?_
              have I2 : MI (mrow m20 53 (mR m s)) := MI_S I0 (MSm_row (Or.inl rfl) _)
              have ro : rowok ((mrow m20 53 (mR m s)) 53) := by rw [mrow_at]; exact hr
              refine g_aload_n hF (by decide +kernel : decode cX5_copy 61 = .ok (.aload_n 0, 1)) rfl ?_
              refine g_iload_n hF (by decide +kernel : decode cX5_copy 62 = .ok (.iload_n 2, 1)) rfl ?_
              refine g_callV hF lkX5_75 (c_X5_becomes X hX _ (by omega) _ (by assumption) (by assumption)) (by decide +kernel : decode cX5_copy 63 = .ok (.invokevirtual 75, 3)) (by decide) rfl rfl rfl rfl jok51 (Nat.le_of_ble_eq_true rfl) (fun v63 m63 h63 => ?_)
              obtain ⟨rfl, w63⟩ := h63
              rw [mrow_at] at w63 ⊢
              have cw := MW_made w63
              rw [e20] at cw
              refine g_ireturn hF hQ (by decide +kernel : decode cX5_copy 66 = .ok (.ireturn, 1)) ?_
              exact ⟨rfl, cw⟩
            · skip
              refine g_aload_n hF (by decide +kernel : decode cX5_copy 37 = .ok (.aload_n 0, 1)) rfl ?_
              refine g_getC hF lkX5_13 (by decide +kernel : decode cX5_copy 38 = .ok (.getfield 13, 3)) jok51 rfl rfl ?_
              refine g_iload_n hF (by decide +kernel : decode cX5_copy 41 = .ok (.iload_n 3, 1)) rfl ?_
              refine g_aload_n hF (by decide +kernel : decode cX5_copy 42 = .ok (.aload_n 0, 1)) rfl ?_
              refine g_getC hF lkX5_7 (by decide +kernel : decode cX5_copy 43 = .ok (.getfield 7, 3)) jok51 rfl rfl ?_
              refine g_sipush hF (by decide +kernel : decode cX5_copy 46 = .ok (.sipush 257, 3)) (by decide) ?_
              refine g_iload_n hF (by decide +kernel : decode cX5_copy 49 = .ok (.iload_n 1, 1)) rfl ?_
              refine g_imul hF (by decide +kernel : decode cX5_copy 50 = .ok (.imul, 1)) ?_
              refine g_iload_n hF (by decide +kernel : decode cX5_copy 51 = .ok (.iload_n 3, 1)) rfl ?_
              refine g_iadd hF (by decide +kernel : decode cX5_copy 52 = .ok (.iadd, 1)) ?_
              refine g_ldC hF (n := 2056) (by decide +kernel : decode cX5_copy 53 = .ok (.iaload, 1)) jrr52 rfl (by omega) ?_
              rw [x52 s]
              refine g_stC hF (n := 257) (by decide +kernel : decode cX5_copy 54 = .ok (.iastore, 1)) jrr53 rfl (by omega) ?_
              refine g_iinc hF (by decide +kernel : decode cX5_copy 55 = .ok (.iinc 3 1, 3)) rfl (by decide) ?_
              refine g_goto hF (tgt := 30) (by decide +kernel : decode cX5_copy 58 = .ok (.goto (-28), 3)) (by decide) ?_
              exact ih (i + 1) _ (by omega) (by omega) (by rw [mset_row, hc0, mrow_mrow, mrow_at, upto_put (g := mR m s) (f := m20 53) (i := i) (by rfl)])
        exact loop 258 0 _ (by omega) (by omega) (by rw [show ((0 : Nat) : Int) = 0 from rfl, upto_0, mrow_self])
      · skip
        exact absurd c23 (by decide)
set_option maxHeartbeats 4000000 in
set_option maxRecDepth 100000 in
theorem n1_X5_copy (X : jX) (hX : jxok X) (s : Int) (js : jr s) (u : Int) (ju : jr u) (m : jM) (h : ¬ ((0 ≤ s ∧ s < 8) ∧ (0 ≤ u ∧ u < 8))) : Con X yX5_copy cX5_copy 4 (some .int) 8 [vR 2 51, vI s, vI u] m (fun o m' => o = some (vI 0) ∧ m' = mset m 51 2 1) := by
  refine Con.of hX (by decide) (Nat.le_of_ble_eq_true rfl) (fun F hF hQ => ?_)
  refine g_aload_n hF (by decide +kernel : decode cX5_copy 0 = .ok (.aload_n 0, 1)) rfl ?_
  refine g_iload_n hF (by decide +kernel : decode cX5_copy 1 = .ok (.iload_n 1, 1)) rfl ?_
  rcases Classical.em (0 ≤ s ∧ s < 8) with s2 | s2
  · skip
    refine g_callS hF lkX5_42 (y_X5_isSlot X hX _ (by omega) (by omega) _) (by decide +kernel : decode cX5_copy 2 = .ok (.invokestatic 42, 3)) (by decide) rfl rfl (Nat.le_of_ble_eq_true rfl) (fun v2 m2 h2 => ?_)
    obtain ⟨rfl, e2⟩ := h2
    obtain rfl := e2.symm
    refine g_if_eq hF (tgt := 19) (by decide +kernel : decode cX5_copy 5 = .ok (.ifCond .eq 14, 3)) (by decide) (by omega) (fun c5 => ?_) (fun c5 => ?_)
    · skip
      exact absurd c5 (by decide)
    · skip
      refine g_iload_n hF (by decide +kernel : decode cX5_copy 8 = .ok (.iload_n 2, 1)) rfl ?_
      refine g_callS hF lkX5_42 (n_X5_isSlot X hX _ (by omega) (fun q => h ⟨s2, q⟩) _) (by decide +kernel : decode cX5_copy 9 = .ok (.invokestatic 42, 3)) (by decide) rfl rfl (Nat.le_of_ble_eq_true rfl) (fun v9 m9 h9 => ?_)
      obtain ⟨rfl, e9⟩ := h9
      obtain rfl := e9.symm
      refine g_if_eq hF (tgt := 19) (by decide +kernel : decode cX5_copy 12 = .ok (.ifCond .eq 7, 3)) (by decide) (by omega) (fun c12 => ?_) (fun c12 => ?_)
      · skip
        refine g_iconst hF (by decide +kernel : decode cX5_copy 19 = .ok (.iconst 1, 1)) ?_
        refine g_callV hF lkX5_53 (n_X5_fails X hX _ (by decide) _) (by decide +kernel : decode cX5_copy 20 = .ok (.invokevirtual 53, 3)) (by decide) rfl rfl rfl rfl jok51 (Nat.le_of_ble_eq_true rfl) (fun v20 m20 h20 => ?_)
        obtain ⟨rfl, e20⟩ := h20
        obtain rfl := e20.symm
        refine g_if_eq hF (tgt := 28) (by decide +kernel : decode cX5_copy 23 = .ok (.ifCond .eq 5, 3)) (by decide) (by omega) (fun c23 => ?_) (fun c23 => ?_)
        · skip
          exact absurd c23 (by decide)
        · skip
          refine g_iconst hF (by decide +kernel : decode cX5_copy 26 = .ok (.iconst 0, 1)) ?_
          refine g_ireturn hF hQ (by decide +kernel : decode cX5_copy 27 = .ok (.ireturn, 1)) ?_
          exact ⟨rfl, rfl⟩
      · skip
        exact absurd c12 (by decide)
  · skip
    refine g_callS hF lkX5_42 (n_X5_isSlot X hX _ (by omega) (by omega) _) (by decide +kernel : decode cX5_copy 2 = .ok (.invokestatic 42, 3)) (by decide) rfl rfl (Nat.le_of_ble_eq_true rfl) (fun v2 m2 h2 => ?_)
    obtain ⟨rfl, e2⟩ := h2
    obtain rfl := e2.symm
    refine g_if_eq hF (tgt := 19) (by decide +kernel : decode cX5_copy 5 = .ok (.ifCond .eq 14, 3)) (by decide) (by omega) (fun c5 => ?_) (fun c5 => ?_)
    · skip
      refine g_iconst hF (by decide +kernel : decode cX5_copy 19 = .ok (.iconst 1, 1)) ?_
      refine g_callV hF lkX5_53 (n_X5_fails X hX _ (by decide) _) (by decide +kernel : decode cX5_copy 20 = .ok (.invokevirtual 53, 3)) (by decide) rfl rfl rfl rfl jok51 (Nat.le_of_ble_eq_true rfl) (fun v20 m20 h20 => ?_)
      obtain ⟨rfl, e20⟩ := h20
      obtain rfl := e20.symm
      refine g_if_eq hF (tgt := 28) (by decide +kernel : decode cX5_copy 23 = .ok (.ifCond .eq 5, 3)) (by decide) (by omega) (fun c23 => ?_) (fun c23 => ?_)
      · skip
        exact absurd c23 (by decide)
      · skip
        refine g_iconst hF (by decide +kernel : decode cX5_copy 26 = .ok (.iconst 0, 1)) ?_
        refine g_ireturn hF hQ (by decide +kernel : decode cX5_copy 27 = .ok (.ireturn, 1)) ?_
        exact ⟨rfl, rfl⟩
    · skip
      exact absurd c5 (by decide)
set_option maxHeartbeats 4000000 in
set_option maxRecDepth 100000 in
theorem c_X5_join (X : jX) (hX : jxok X) (s : Nat) (hs : s < 8) (u : Nat) (hu : u < 8) (w : Nat) (hw : w < 8) (m : jM) (hI : MI m) : Con X yX5_join cX5_join 5 (some .int) 8 [vR 2 51, vI s, vI u, vI w] m (fun o m' => o = some (vI (cnt (fun z => if mR m u z = -2 then mR m s z else mR m u z))) ∧ MW (mset m 51 2 0) w (fun z => if mR m u z = -2 then mR m s z else mR m u z) m') := by
  refine Con.of hX (by decide) (Nat.le_of_ble_eq_true rfl) (fun F hF hQ => ?_)
  have hr := hI.1 s hs
  have hr2 := hI.1 u hu
  refine g_aload_n hF (by decide +kernel : decode cX5_join 0 = .ok (.aload_n 0, 1)) rfl ?_
  refine g_iload_n hF (by decide +kernel : decode cX5_join 1 = .ok (.iload_n 1, 1)) rfl ?_
  refine g_iload_n hF (by decide +kernel : decode cX5_join 2 = .ok (.iload_n 2, 1)) rfl ?_
  refine g_iload_n hF (by decide +kernel : decode cX5_join 3 = .ok (.iload_n 3, 1)) rfl ?_
  refine g_callV hF lkX5_78 (y_X5_areNone X hX _ (by omega) _ (by omega) _ (by omega) _) (by decide +kernel : decode cX5_join 4 = .ok (.invokevirtual 78, 3)) (by decide) rfl rfl rfl rfl jok51 (Nat.le_of_ble_eq_true rfl) (fun v4 m4 h4 => ?_)
  obtain ⟨rfl, e4⟩ := h4
  have S0 : MSm m m4 := by rw [e4]; exact MSm_code m (Or.inl rfl) 0
  have I0 := MI_S hI S0
  have z0 : m4 51 2 = 0 := by rw [e4, mset_at]
  have r0 : ∀ t : Nat, mR m4 t = mR m t := fun t => mR_52 (S0.1 52 (by decide) (by decide) (by decide)) t
  refine g_if_eq hF (tgt := 12) (by decide +kernel : decode cX5_join 7 = .ok (.ifCond .eq 5, 3)) (by decide) (by omega) (fun c7 => ?_) (fun c7 => ?_)
  · skip
    refine g_iconst hF (by decide +kernel : decode cX5_join 12 = .ok (.iconst 0, 1)) ?_
    refine g_istore hF (by decide +kernel : decode cX5_join 13 = .ok (.istore 4, 2)) (by decide) ?_
    have loop : ∀ (n i : Nat) (mm : jM), i ≤ 257 → 258 ≤ i + n → mm = mrow m4 53 (upto (fun z => if mR m u z = -2 then mR m s z else mR m u z) (m4 53) i) → jG F X mm 15 [(0, vR 2 51), (1, vI s), (2, vI u), (3, vI w), (4, vI i)] [] := by
      intro n
      induction n with
      | zero => intro i mm h1 h2; exact absurd h2 (by omega)
      | succ n ih =>
        intro i mm h1 h2 hc0
        have x52 : ∀ t : Nat, mm 52 (257 * (t : Int) + i) = mR m t i := fun t => by rw [hc0, mrow_ne (by decide)]; exact congrFun (r0 t) i
        have xR : ∀ t : Nat, mR mm t = mR m t := fun t => by rw [← r0]; exact mR_52 (by rw [hc0, mrow_ne (by decide)]) t
        refine g_iload hF (by decide +kernel : decode cX5_join 15 = .ok (.iload 4, 2)) rfl ?_
        refine g_sipush hF (by decide +kernel : decode cX5_join 17 = .ok (.sipush 257, 3)) (by decide) ?_
        refine g_icmp_ge hF (tgt := 83) (by decide +kernel : decode cX5_join 20 = .ok (.if_icmp .ge 63, 3)) (by decide) (by omega) (by omega) (fun c20 => ?_) (fun c20 => ?_)
        · skip
          refine jG_m hc0 ?_
          obtain rfl : i = 257 := by omega
          refine g_eqv (mrow_eqv rfl upto_all) ?_
          have I2 : MI (mrow m4 53 (fun z => if mR m u z = -2 then mR m s z else mR m u z)) := MI_S I0 (MSm_row (Or.inl rfl) _)
          have ro : rowok ((mrow m4 53 (fun z => if mR m u z = -2 then mR m s z else mR m u z)) 53) := by rw [mrow_at]; exact rowok_if3 hr hr2
          refine g_aload_n hF (by decide +kernel : decode cX5_join 83 = .ok (.aload_n 0, 1)) rfl ?_
          refine g_iload_n hF (by decide +kernel : decode cX5_join 84 = .ok (.iload_n 3, 1)) rfl ?_
          refine g_callV hF lkX5_75 (c_X5_becomes X hX _ (by omega) _ (by assumption) (by assumption)) (by decide +kernel : decode cX5_join 85 = .ok (.invokevirtual 75, 3)) (by decide) rfl rfl rfl rfl jok51 (Nat.le_of_ble_eq_true rfl) (fun v85 m85 h85 => ?_)
          obtain ⟨rfl, w85⟩ := h85
          rw [mrow_at] at w85 ⊢
          have cw := MW_made w85
          rw [e4] at cw
          refine g_ireturn hF hQ (by decide +kernel : decode cX5_join 88 = .ok (.ireturn, 1)) ?_
          exact ⟨rfl, cw⟩
        · skip
          have b1 := hr i (by omega) (by omega)
          have b2 := hr2 i (by omega) (by omega)
          refine g_aload_n hF (by decide +kernel : decode cX5_join 23 = .ok (.aload_n 0, 1)) rfl ?_
          refine g_getC hF lkX5_13 (by decide +kernel : decode cX5_join 24 = .ok (.getfield 13, 3)) jok51 rfl rfl ?_
          refine g_iload hF (by decide +kernel : decode cX5_join 27 = .ok (.iload 4, 2)) rfl ?_
          refine g_aload_n hF (by decide +kernel : decode cX5_join 29 = .ok (.aload_n 0, 1)) rfl ?_
          refine g_getC hF lkX5_7 (by decide +kernel : decode cX5_join 30 = .ok (.getfield 7, 3)) jok51 rfl rfl ?_
          refine g_sipush hF (by decide +kernel : decode cX5_join 33 = .ok (.sipush 257, 3)) (by decide) ?_
          refine g_iload_n hF (by decide +kernel : decode cX5_join 36 = .ok (.iload_n 2, 1)) rfl ?_
          refine g_imul hF (by decide +kernel : decode cX5_join 37 = .ok (.imul, 1)) ?_
          refine g_iload hF (by decide +kernel : decode cX5_join 38 = .ok (.iload 4, 2)) rfl ?_
          refine g_iadd hF (by decide +kernel : decode cX5_join 40 = .ok (.iadd, 1)) ?_
          refine g_ldC hF (n := 2056) (by decide +kernel : decode cX5_join 41 = .ok (.iaload, 1)) jrr52 rfl (by omega) ?_
          first | rw [x52 u] | skip
          refine g_bipush hF (by decide +kernel : decode cX5_join 42 = .ok (.bipush (-2), 2)) (by decide) ?_
          refine g_icmp_ne hF (tgt := 63) (by decide +kernel : decode cX5_join 44 = .ok (.if_icmp .ne 19, 3)) (by decide) (by omega) (by omega) (fun c44 => ?_) (fun c44 => ?_)
          · skip
            refine g_aload_n hF (by decide +kernel : decode cX5_join 63 = .ok (.aload_n 0, 1)) rfl ?_
            refine g_getC hF lkX5_7 (by decide +kernel : decode cX5_join 64 = .ok (.getfield 7, 3)) jok51 rfl rfl ?_
            refine g_sipush hF (by decide +kernel : decode cX5_join 67 = .ok (.sipush 257, 3)) (by decide) ?_
            refine g_iload_n hF (by decide +kernel : decode cX5_join 70 = .ok (.iload_n 2, 1)) rfl ?_
            refine g_imul hF (by decide +kernel : decode cX5_join 71 = .ok (.imul, 1)) ?_
            refine g_iload hF (by decide +kernel : decode cX5_join 72 = .ok (.iload 4, 2)) rfl ?_
            refine g_iadd hF (by decide +kernel : decode cX5_join 74 = .ok (.iadd, 1)) ?_
            refine g_ldC hF (n := 2056) (by decide +kernel : decode cX5_join 75 = .ok (.iaload, 1)) jrr52 rfl (by omega) ?_
            first | rw [x52 u] | skip
            refine g_stC hF (n := 257) (by decide +kernel : decode cX5_join 76 = .ok (.iastore, 1)) jrr53 rfl (by omega) ?_
            refine g_iinc hF (by decide +kernel : decode cX5_join 77 = .ok (.iinc 4 1, 3)) rfl (by decide) ?_
            refine g_goto hF (tgt := 15) (by decide +kernel : decode cX5_join 80 = .ok (.goto (-65), 3)) (by decide) ?_
            exact ih (i + 1) _ (by omega) (by omega) (by rw [mset_row, hc0, mrow_mrow, mrow_at, upto_put (g := fun z => if mR m u z = -2 then mR m s z else mR m u z) (f := m4 53) (i := i) (by exact (if_neg c44).symm)])
          · skip
            refine g_aload_n hF (by decide +kernel : decode cX5_join 47 = .ok (.aload_n 0, 1)) rfl ?_
            refine g_getC hF lkX5_7 (by decide +kernel : decode cX5_join 48 = .ok (.getfield 7, 3)) jok51 rfl rfl ?_
            refine g_sipush hF (by decide +kernel : decode cX5_join 51 = .ok (.sipush 257, 3)) (by decide) ?_
            refine g_iload_n hF (by decide +kernel : decode cX5_join 54 = .ok (.iload_n 1, 1)) rfl ?_
            refine g_imul hF (by decide +kernel : decode cX5_join 55 = .ok (.imul, 1)) ?_
            refine g_iload hF (by decide +kernel : decode cX5_join 56 = .ok (.iload 4, 2)) rfl ?_
            refine g_iadd hF (by decide +kernel : decode cX5_join 58 = .ok (.iadd, 1)) ?_
            refine g_ldC hF (n := 2056) (by decide +kernel : decode cX5_join 59 = .ok (.iaload, 1)) jrr52 rfl (by omega) ?_
            first | rw [x52 s] | skip
            refine g_goto hF (tgt := 76) (by decide +kernel : decode cX5_join 60 = .ok (.goto 16, 3)) (by decide) ?_
            first | rw [x52 u] | skip
            refine g_stC hF (n := 257) (by decide +kernel : decode cX5_join 76 = .ok (.iastore, 1)) jrr53 rfl (by omega) ?_
            refine g_iinc hF (by decide +kernel : decode cX5_join 77 = .ok (.iinc 4 1, 3)) rfl (by decide) ?_
            refine g_goto hF (tgt := 15) (by decide +kernel : decode cX5_join 80 = .ok (.goto (-65), 3)) (by decide) ?_
            exact ih (i + 1) _ (by omega) (by omega) (by rw [mset_row, hc0, mrow_mrow, mrow_at, upto_put (g := fun z => if mR m u z = -2 then mR m s z else mR m u z) (f := m4 53) (i := i) (by exact (if_pos c44).symm)])
    exact loop 258 0 _ (by omega) (by omega) (by rw [show ((0 : Nat) : Int) = 0 from rfl, upto_0, mrow_self])
  · skip
    exact absurd c7 (by decide)
set_option maxHeartbeats 4000000 in
set_option maxRecDepth 100000 in
theorem n1_X5_join (X : jX) (hX : jxok X) (s : Int) (js : jr s) (u : Int) (ju : jr u) (w : Int) (jw : jr w) (m : jM) (h : ¬ ((0 ≤ s ∧ s < 8) ∧ (0 ≤ u ∧ u < 8) ∧ (0 ≤ w ∧ w < 8))) : Con X yX5_join cX5_join 5 (some .int) 8 [vR 2 51, vI s, vI u, vI w] m (fun o m' => o = some (vI 0) ∧ m' = mset m 51 2 1) := by
  refine Con.of hX (by decide) (Nat.le_of_ble_eq_true rfl) (fun F hF hQ => ?_)
  refine g_aload_n hF (by decide +kernel : decode cX5_join 0 = .ok (.aload_n 0, 1)) rfl ?_
  refine g_iload_n hF (by decide +kernel : decode cX5_join 1 = .ok (.iload_n 1, 1)) rfl ?_
  refine g_iload_n hF (by decide +kernel : decode cX5_join 2 = .ok (.iload_n 2, 1)) rfl ?_
  refine g_iload_n hF (by decide +kernel : decode cX5_join 3 = .ok (.iload_n 3, 1)) rfl ?_
  refine g_callV hF lkX5_78 (n_X5_areNone X hX _ _ _ (by omega) (by omega) (by omega) h _) (by decide +kernel : decode cX5_join 4 = .ok (.invokevirtual 78, 3)) (by decide) rfl rfl rfl rfl jok51 (Nat.le_of_ble_eq_true rfl) (fun v4 m4 h4 => ?_)
  obtain ⟨rfl, e4⟩ := h4
  obtain rfl := e4.symm
  refine g_if_eq hF (tgt := 12) (by decide +kernel : decode cX5_join 7 = .ok (.ifCond .eq 5, 3)) (by decide) (by omega) (fun c7 => ?_) (fun c7 => ?_)
  · skip
    exact absurd c7 (by decide)
  · skip
    refine g_iconst hF (by decide +kernel : decode cX5_join 10 = .ok (.iconst 0, 1)) ?_
    refine g_ireturn hF hQ (by decide +kernel : decode cX5_join 11 = .ok (.ireturn, 1)) ?_
    exact ⟨rfl, rfl⟩
set_option maxHeartbeats 4000000 in
set_option maxRecDepth 100000 in
theorem c_X5_less (X : jX) (hX : jxok X) (s : Nat) (hs : s < 8) (u : Nat) (hu : u < 8) (w : Nat) (hw : w < 8) (m : jM) (hI : MI m) : Con X yX5_less cX5_less 5 (some .int) 8 [vR 2 51, vI s, vI u, vI w] m (fun o m' => o = some (vI (cnt (fun z => if mR m u z = -2 then mR m s z else -2))) ∧ MW (mset m 51 2 0) w (fun z => if mR m u z = -2 then mR m s z else -2) m') := by
  refine Con.of hX (by decide) (Nat.le_of_ble_eq_true rfl) (fun F hF hQ => ?_)
  have hr := hI.1 s hs
  have hr2 := hI.1 u hu
  refine g_aload_n hF (by decide +kernel : decode cX5_less 0 = .ok (.aload_n 0, 1)) rfl ?_
  refine g_iload_n hF (by decide +kernel : decode cX5_less 1 = .ok (.iload_n 1, 1)) rfl ?_
  refine g_iload_n hF (by decide +kernel : decode cX5_less 2 = .ok (.iload_n 2, 1)) rfl ?_
  refine g_iload_n hF (by decide +kernel : decode cX5_less 3 = .ok (.iload_n 3, 1)) rfl ?_
  refine g_callV hF lkX5_78 (y_X5_areNone X hX _ (by omega) _ (by omega) _ (by omega) _) (by decide +kernel : decode cX5_less 4 = .ok (.invokevirtual 78, 3)) (by decide) rfl rfl rfl rfl jok51 (Nat.le_of_ble_eq_true rfl) (fun v4 m4 h4 => ?_)
  obtain ⟨rfl, e4⟩ := h4
  have S0 : MSm m m4 := by rw [e4]; exact MSm_code m (Or.inl rfl) 0
  have I0 := MI_S hI S0
  have z0 : m4 51 2 = 0 := by rw [e4, mset_at]
  have r0 : ∀ t : Nat, mR m4 t = mR m t := fun t => mR_52 (S0.1 52 (by decide) (by decide) (by decide)) t
  refine g_if_eq hF (tgt := 12) (by decide +kernel : decode cX5_less 7 = .ok (.ifCond .eq 5, 3)) (by decide) (by omega) (fun c7 => ?_) (fun c7 => ?_)
  · skip
    refine g_iconst hF (by decide +kernel : decode cX5_less 12 = .ok (.iconst 0, 1)) ?_
    refine g_istore hF (by decide +kernel : decode cX5_less 13 = .ok (.istore 4, 2)) (by decide) ?_
    have loop : ∀ (n i : Nat) (mm : jM), i ≤ 257 → 258 ≤ i + n → mm = mrow m4 53 (upto (fun z => if mR m u z = -2 then mR m s z else -2) (m4 53) i) → jG F X mm 15 [(0, vR 2 51), (1, vI s), (2, vI u), (3, vI w), (4, vI i)] [] := by
      intro n
      induction n with
      | zero => intro i mm h1 h2; exact absurd h2 (by omega)
      | succ n ih =>
        intro i mm h1 h2 hc0
        have x52 : ∀ t : Nat, mm 52 (257 * (t : Int) + i) = mR m t i := fun t => by rw [hc0, mrow_ne (by decide)]; exact congrFun (r0 t) i
        have xR : ∀ t : Nat, mR mm t = mR m t := fun t => by rw [← r0]; exact mR_52 (by rw [hc0, mrow_ne (by decide)]) t
        refine g_iload hF (by decide +kernel : decode cX5_less 15 = .ok (.iload 4, 2)) rfl ?_
        refine g_sipush hF (by decide +kernel : decode cX5_less 17 = .ok (.sipush 257, 3)) (by decide) ?_
        refine g_icmp_ge hF (tgt := 72) (by decide +kernel : decode cX5_less 20 = .ok (.if_icmp .ge 52, 3)) (by decide) (by omega) (by omega) (fun c20 => ?_) (fun c20 => ?_)
        · skip
          refine jG_m hc0 ?_
          obtain rfl : i = 257 := by omega
          refine g_eqv (mrow_eqv rfl upto_all) ?_
          have I2 : MI (mrow m4 53 (fun z => if mR m u z = -2 then mR m s z else -2)) := MI_S I0 (MSm_row (Or.inl rfl) _)
          have ro : rowok ((mrow m4 53 (fun z => if mR m u z = -2 then mR m s z else -2)) 53) := by rw [mrow_at]; exact rowok_if2 hr
          refine g_aload_n hF (by decide +kernel : decode cX5_less 72 = .ok (.aload_n 0, 1)) rfl ?_
          refine g_iload_n hF (by decide +kernel : decode cX5_less 73 = .ok (.iload_n 3, 1)) rfl ?_
          refine g_callV hF lkX5_75 (c_X5_becomes X hX _ (by omega) _ (by assumption) (by assumption)) (by decide +kernel : decode cX5_less 74 = .ok (.invokevirtual 75, 3)) (by decide) rfl rfl rfl rfl jok51 (Nat.le_of_ble_eq_true rfl) (fun v74 m74 h74 => ?_)
          obtain ⟨rfl, w74⟩ := h74
          rw [mrow_at] at w74 ⊢
          have cw := MW_made w74
          rw [e4] at cw
          refine g_ireturn hF hQ (by decide +kernel : decode cX5_less 77 = .ok (.ireturn, 1)) ?_
          exact ⟨rfl, cw⟩
        · skip
          have b1 := hr i (by omega) (by omega)
          have b2 := hr2 i (by omega) (by omega)
          refine g_aload_n hF (by decide +kernel : decode cX5_less 23 = .ok (.aload_n 0, 1)) rfl ?_
          refine g_getC hF lkX5_13 (by decide +kernel : decode cX5_less 24 = .ok (.getfield 13, 3)) jok51 rfl rfl ?_
          refine g_iload hF (by decide +kernel : decode cX5_less 27 = .ok (.iload 4, 2)) rfl ?_
          refine g_aload_n hF (by decide +kernel : decode cX5_less 29 = .ok (.aload_n 0, 1)) rfl ?_
          refine g_getC hF lkX5_7 (by decide +kernel : decode cX5_less 30 = .ok (.getfield 7, 3)) jok51 rfl rfl ?_
          refine g_sipush hF (by decide +kernel : decode cX5_less 33 = .ok (.sipush 257, 3)) (by decide) ?_
          refine g_iload_n hF (by decide +kernel : decode cX5_less 36 = .ok (.iload_n 2, 1)) rfl ?_
          refine g_imul hF (by decide +kernel : decode cX5_less 37 = .ok (.imul, 1)) ?_
          refine g_iload hF (by decide +kernel : decode cX5_less 38 = .ok (.iload 4, 2)) rfl ?_
          refine g_iadd hF (by decide +kernel : decode cX5_less 40 = .ok (.iadd, 1)) ?_
          refine g_ldC hF (n := 2056) (by decide +kernel : decode cX5_less 41 = .ok (.iaload, 1)) jrr52 rfl (by omega) ?_
          first | rw [x52 u] | skip
          refine g_bipush hF (by decide +kernel : decode cX5_less 42 = .ok (.bipush (-2), 2)) (by decide) ?_
          refine g_icmp_ne hF (tgt := 63) (by decide +kernel : decode cX5_less 44 = .ok (.if_icmp .ne 19, 3)) (by decide) (by omega) (by omega) (fun c44 => ?_) (fun c44 => ?_)
          · skip
            refine g_bipush hF (by decide +kernel : decode cX5_less 63 = .ok (.bipush (-2), 2)) (by decide) ?_
            refine g_stC hF (n := 257) (by decide +kernel : decode cX5_less 65 = .ok (.iastore, 1)) jrr53 rfl (by omega) ?_
            refine g_iinc hF (by decide +kernel : decode cX5_less 66 = .ok (.iinc 4 1, 3)) rfl (by decide) ?_
            refine g_goto hF (tgt := 15) (by decide +kernel : decode cX5_less 69 = .ok (.goto (-54), 3)) (by decide) ?_
            exact ih (i + 1) _ (by omega) (by omega) (by rw [mset_row, hc0, mrow_mrow, mrow_at, upto_put (g := fun z => if mR m u z = -2 then mR m s z else -2) (f := m4 53) (i := i) (by exact (if_neg c44).symm)])
          · skip
            refine g_aload_n hF (by decide +kernel : decode cX5_less 47 = .ok (.aload_n 0, 1)) rfl ?_
            refine g_getC hF lkX5_7 (by decide +kernel : decode cX5_less 48 = .ok (.getfield 7, 3)) jok51 rfl rfl ?_
            refine g_sipush hF (by decide +kernel : decode cX5_less 51 = .ok (.sipush 257, 3)) (by decide) ?_
            refine g_iload_n hF (by decide +kernel : decode cX5_less 54 = .ok (.iload_n 1, 1)) rfl ?_
            refine g_imul hF (by decide +kernel : decode cX5_less 55 = .ok (.imul, 1)) ?_
            refine g_iload hF (by decide +kernel : decode cX5_less 56 = .ok (.iload 4, 2)) rfl ?_
            refine g_iadd hF (by decide +kernel : decode cX5_less 58 = .ok (.iadd, 1)) ?_
            refine g_ldC hF (n := 2056) (by decide +kernel : decode cX5_less 59 = .ok (.iaload, 1)) jrr52 rfl (by omega) ?_
            first | rw [x52 s] | skip
            refine g_goto hF (tgt := 65) (by decide +kernel : decode cX5_less 60 = .ok (.goto 5, 3)) (by decide) ?_
            refine g_stC hF (n := 257) (by decide +kernel : decode cX5_less 65 = .ok (.iastore, 1)) jrr53 rfl (by omega) ?_
            refine g_iinc hF (by decide +kernel : decode cX5_less 66 = .ok (.iinc 4 1, 3)) rfl (by decide) ?_
            refine g_goto hF (tgt := 15) (by decide +kernel : decode cX5_less 69 = .ok (.goto (-54), 3)) (by decide) ?_
            exact ih (i + 1) _ (by omega) (by omega) (by rw [mset_row, hc0, mrow_mrow, mrow_at, upto_put (g := fun z => if mR m u z = -2 then mR m s z else -2) (f := m4 53) (i := i) (by exact (if_pos c44).symm)])
    exact loop 258 0 _ (by omega) (by omega) (by rw [show ((0 : Nat) : Int) = 0 from rfl, upto_0, mrow_self])
  · skip
    exact absurd c7 (by decide)
set_option maxHeartbeats 4000000 in
set_option maxRecDepth 100000 in
theorem n1_X5_less (X : jX) (hX : jxok X) (s : Int) (js : jr s) (u : Int) (ju : jr u) (w : Int) (jw : jr w) (m : jM) (h : ¬ ((0 ≤ s ∧ s < 8) ∧ (0 ≤ u ∧ u < 8) ∧ (0 ≤ w ∧ w < 8))) : Con X yX5_less cX5_less 5 (some .int) 8 [vR 2 51, vI s, vI u, vI w] m (fun o m' => o = some (vI 0) ∧ m' = mset m 51 2 1) := by
  refine Con.of hX (by decide) (Nat.le_of_ble_eq_true rfl) (fun F hF hQ => ?_)
  refine g_aload_n hF (by decide +kernel : decode cX5_less 0 = .ok (.aload_n 0, 1)) rfl ?_
  refine g_iload_n hF (by decide +kernel : decode cX5_less 1 = .ok (.iload_n 1, 1)) rfl ?_
  refine g_iload_n hF (by decide +kernel : decode cX5_less 2 = .ok (.iload_n 2, 1)) rfl ?_
  refine g_iload_n hF (by decide +kernel : decode cX5_less 3 = .ok (.iload_n 3, 1)) rfl ?_
  refine g_callV hF lkX5_78 (n_X5_areNone X hX _ _ _ (by omega) (by omega) (by omega) h _) (by decide +kernel : decode cX5_less 4 = .ok (.invokevirtual 78, 3)) (by decide) rfl rfl rfl rfl jok51 (Nat.le_of_ble_eq_true rfl) (fun v4 m4 h4 => ?_)
  obtain ⟨rfl, e4⟩ := h4
  obtain rfl := e4.symm
  refine g_if_eq hF (tgt := 12) (by decide +kernel : decode cX5_less 7 = .ok (.ifCond .eq 5, 3)) (by decide) (by omega) (fun c7 => ?_) (fun c7 => ?_)
  · skip
    exact absurd c7 (by decide)
  · skip
    refine g_iconst hF (by decide +kernel : decode cX5_less 10 = .ok (.iconst 0, 1)) ?_
    refine g_ireturn hF hQ (by decide +kernel : decode cX5_less 11 = .ok (.ireturn, 1)) ?_
    exact ⟨rfl, rfl⟩
set_option maxHeartbeats 4000000 in
set_option maxRecDepth 100000 in
theorem c_X5_common (X : jX) (hX : jxok X) (s : Nat) (hs : s < 8) (u : Nat) (hu : u < 8) (w : Nat) (hw : w < 8) (m : jM) (hI : MI m) : Con X yX5_common cX5_common 5 (some .int) 8 [vR 2 51, vI s, vI u, vI w] m (fun o m' => o = some (vI (cnt (fun z => if mR m u z = -2 then -2 else mR m s z))) ∧ MW (mset m 51 2 0) w (fun z => if mR m u z = -2 then -2 else mR m s z) m') := by
  refine Con.of hX (by decide) (Nat.le_of_ble_eq_true rfl) (fun F hF hQ => ?_)
  have hr := hI.1 s hs
  have hr2 := hI.1 u hu
  refine g_aload_n hF (by decide +kernel : decode cX5_common 0 = .ok (.aload_n 0, 1)) rfl ?_
  refine g_iload_n hF (by decide +kernel : decode cX5_common 1 = .ok (.iload_n 1, 1)) rfl ?_
  refine g_iload_n hF (by decide +kernel : decode cX5_common 2 = .ok (.iload_n 2, 1)) rfl ?_
  refine g_iload_n hF (by decide +kernel : decode cX5_common 3 = .ok (.iload_n 3, 1)) rfl ?_
  refine g_callV hF lkX5_78 (y_X5_areNone X hX _ (by omega) _ (by omega) _ (by omega) _) (by decide +kernel : decode cX5_common 4 = .ok (.invokevirtual 78, 3)) (by decide) rfl rfl rfl rfl jok51 (Nat.le_of_ble_eq_true rfl) (fun v4 m4 h4 => ?_)
  obtain ⟨rfl, e4⟩ := h4
  have S0 : MSm m m4 := by rw [e4]; exact MSm_code m (Or.inl rfl) 0
  have I0 := MI_S hI S0
  have z0 : m4 51 2 = 0 := by rw [e4, mset_at]
  have r0 : ∀ t : Nat, mR m4 t = mR m t := fun t => mR_52 (S0.1 52 (by decide) (by decide) (by decide)) t
  refine g_if_eq hF (tgt := 12) (by decide +kernel : decode cX5_common 7 = .ok (.ifCond .eq 5, 3)) (by decide) (by omega) (fun c7 => ?_) (fun c7 => ?_)
  · skip
    refine g_iconst hF (by decide +kernel : decode cX5_common 12 = .ok (.iconst 0, 1)) ?_
    refine g_istore hF (by decide +kernel : decode cX5_common 13 = .ok (.istore 4, 2)) (by decide) ?_
    have loop : ∀ (n i : Nat) (mm : jM), i ≤ 257 → 258 ≤ i + n → mm = mrow m4 53 (upto (fun z => if mR m u z = -2 then -2 else mR m s z) (m4 53) i) → jG F X mm 15 [(0, vR 2 51), (1, vI s), (2, vI u), (3, vI w), (4, vI i)] [] := by
      intro n
      induction n with
      | zero => intro i mm h1 h2; exact absurd h2 (by omega)
      | succ n ih =>
        intro i mm h1 h2 hc0
        have x52 : ∀ t : Nat, mm 52 (257 * (t : Int) + i) = mR m t i := fun t => by rw [hc0, mrow_ne (by decide)]; exact congrFun (r0 t) i
        have xR : ∀ t : Nat, mR mm t = mR m t := fun t => by rw [← r0]; exact mR_52 (by rw [hc0, mrow_ne (by decide)]) t
        refine g_iload hF (by decide +kernel : decode cX5_common 15 = .ok (.iload 4, 2)) rfl ?_
        refine g_sipush hF (by decide +kernel : decode cX5_common 17 = .ok (.sipush 257, 3)) (by decide) ?_
        refine g_icmp_ge hF (tgt := 72) (by decide +kernel : decode cX5_common 20 = .ok (.if_icmp .ge 52, 3)) (by decide) (by omega) (by omega) (fun c20 => ?_) (fun c20 => ?_)
        · skip
          refine jG_m hc0 ?_
          obtain rfl : i = 257 := by omega
          refine g_eqv (mrow_eqv rfl upto_all) ?_
          have I2 : MI (mrow m4 53 (fun z => if mR m u z = -2 then -2 else mR m s z)) := MI_S I0 (MSm_row (Or.inl rfl) _)
          have ro : rowok ((mrow m4 53 (fun z => if mR m u z = -2 then -2 else mR m s z)) 53) := by rw [mrow_at]; exact rowok_if hr
          refine g_aload_n hF (by decide +kernel : decode cX5_common 72 = .ok (.aload_n 0, 1)) rfl ?_
          refine g_iload_n hF (by decide +kernel : decode cX5_common 73 = .ok (.iload_n 3, 1)) rfl ?_
          refine g_callV hF lkX5_75 (c_X5_becomes X hX _ (by omega) _ (by assumption) (by assumption)) (by decide +kernel : decode cX5_common 74 = .ok (.invokevirtual 75, 3)) (by decide) rfl rfl rfl rfl jok51 (Nat.le_of_ble_eq_true rfl) (fun v74 m74 h74 => ?_)
          obtain ⟨rfl, w74⟩ := h74
          rw [mrow_at] at w74 ⊢
          have cw := MW_made w74
          rw [e4] at cw
          refine g_ireturn hF hQ (by decide +kernel : decode cX5_common 77 = .ok (.ireturn, 1)) ?_
          exact ⟨rfl, cw⟩
        · skip
          have b1 := hr i (by omega) (by omega)
          have b2 := hr2 i (by omega) (by omega)
          refine g_aload_n hF (by decide +kernel : decode cX5_common 23 = .ok (.aload_n 0, 1)) rfl ?_
          refine g_getC hF lkX5_13 (by decide +kernel : decode cX5_common 24 = .ok (.getfield 13, 3)) jok51 rfl rfl ?_
          refine g_iload hF (by decide +kernel : decode cX5_common 27 = .ok (.iload 4, 2)) rfl ?_
          refine g_aload_n hF (by decide +kernel : decode cX5_common 29 = .ok (.aload_n 0, 1)) rfl ?_
          refine g_getC hF lkX5_7 (by decide +kernel : decode cX5_common 30 = .ok (.getfield 7, 3)) jok51 rfl rfl ?_
          refine g_sipush hF (by decide +kernel : decode cX5_common 33 = .ok (.sipush 257, 3)) (by decide) ?_
          refine g_iload_n hF (by decide +kernel : decode cX5_common 36 = .ok (.iload_n 2, 1)) rfl ?_
          refine g_imul hF (by decide +kernel : decode cX5_common 37 = .ok (.imul, 1)) ?_
          refine g_iload hF (by decide +kernel : decode cX5_common 38 = .ok (.iload 4, 2)) rfl ?_
          refine g_iadd hF (by decide +kernel : decode cX5_common 40 = .ok (.iadd, 1)) ?_
          refine g_ldC hF (n := 2056) (by decide +kernel : decode cX5_common 41 = .ok (.iaload, 1)) jrr52 rfl (by omega) ?_
          first | rw [x52 u] | skip
          refine g_bipush hF (by decide +kernel : decode cX5_common 42 = .ok (.bipush (-2), 2)) (by decide) ?_
          refine g_icmp_ne hF (tgt := 52) (by decide +kernel : decode cX5_common 44 = .ok (.if_icmp .ne 8, 3)) (by decide) (by omega) (by omega) (fun c44 => ?_) (fun c44 => ?_)
          · skip
            refine g_aload_n hF (by decide +kernel : decode cX5_common 52 = .ok (.aload_n 0, 1)) rfl ?_
            refine g_getC hF lkX5_7 (by decide +kernel : decode cX5_common 53 = .ok (.getfield 7, 3)) jok51 rfl rfl ?_
            refine g_sipush hF (by decide +kernel : decode cX5_common 56 = .ok (.sipush 257, 3)) (by decide) ?_
            refine g_iload_n hF (by decide +kernel : decode cX5_common 59 = .ok (.iload_n 1, 1)) rfl ?_
            refine g_imul hF (by decide +kernel : decode cX5_common 60 = .ok (.imul, 1)) ?_
            refine g_iload hF (by decide +kernel : decode cX5_common 61 = .ok (.iload 4, 2)) rfl ?_
            refine g_iadd hF (by decide +kernel : decode cX5_common 63 = .ok (.iadd, 1)) ?_
            refine g_ldC hF (n := 2056) (by decide +kernel : decode cX5_common 64 = .ok (.iaload, 1)) jrr52 rfl (by omega) ?_
            first | rw [x52 s] | skip
            refine g_stC hF (n := 257) (by decide +kernel : decode cX5_common 65 = .ok (.iastore, 1)) jrr53 rfl (by omega) ?_
            refine g_iinc hF (by decide +kernel : decode cX5_common 66 = .ok (.iinc 4 1, 3)) rfl (by decide) ?_
            refine g_goto hF (tgt := 15) (by decide +kernel : decode cX5_common 69 = .ok (.goto (-54), 3)) (by decide) ?_
            exact ih (i + 1) _ (by omega) (by omega) (by rw [mset_row, hc0, mrow_mrow, mrow_at, upto_put (g := fun z => if mR m u z = -2 then -2 else mR m s z) (f := m4 53) (i := i) (by exact (if_neg c44).symm)])
          · skip
            refine g_bipush hF (by decide +kernel : decode cX5_common 47 = .ok (.bipush (-2), 2)) (by decide) ?_
            refine g_goto hF (tgt := 65) (by decide +kernel : decode cX5_common 49 = .ok (.goto 16, 3)) (by decide) ?_
            first | rw [x52 s] | skip
            refine g_stC hF (n := 257) (by decide +kernel : decode cX5_common 65 = .ok (.iastore, 1)) jrr53 rfl (by omega) ?_
            refine g_iinc hF (by decide +kernel : decode cX5_common 66 = .ok (.iinc 4 1, 3)) rfl (by decide) ?_
            refine g_goto hF (tgt := 15) (by decide +kernel : decode cX5_common 69 = .ok (.goto (-54), 3)) (by decide) ?_
            exact ih (i + 1) _ (by omega) (by omega) (by rw [mset_row, hc0, mrow_mrow, mrow_at, upto_put (g := fun z => if mR m u z = -2 then -2 else mR m s z) (f := m4 53) (i := i) (by exact (if_pos c44).symm)])
    exact loop 258 0 _ (by omega) (by omega) (by rw [show ((0 : Nat) : Int) = 0 from rfl, upto_0, mrow_self])
  · skip
    exact absurd c7 (by decide)
set_option maxHeartbeats 4000000 in
set_option maxRecDepth 100000 in
theorem n1_X5_common (X : jX) (hX : jxok X) (s : Int) (js : jr s) (u : Int) (ju : jr u) (w : Int) (jw : jr w) (m : jM) (h : ¬ ((0 ≤ s ∧ s < 8) ∧ (0 ≤ u ∧ u < 8) ∧ (0 ≤ w ∧ w < 8))) : Con X yX5_common cX5_common 5 (some .int) 8 [vR 2 51, vI s, vI u, vI w] m (fun o m' => o = some (vI 0) ∧ m' = mset m 51 2 1) := by
  refine Con.of hX (by decide) (Nat.le_of_ble_eq_true rfl) (fun F hF hQ => ?_)
  refine g_aload_n hF (by decide +kernel : decode cX5_common 0 = .ok (.aload_n 0, 1)) rfl ?_
  refine g_iload_n hF (by decide +kernel : decode cX5_common 1 = .ok (.iload_n 1, 1)) rfl ?_
  refine g_iload_n hF (by decide +kernel : decode cX5_common 2 = .ok (.iload_n 2, 1)) rfl ?_
  refine g_iload_n hF (by decide +kernel : decode cX5_common 3 = .ok (.iload_n 3, 1)) rfl ?_
  refine g_callV hF lkX5_78 (n_X5_areNone X hX _ _ _ (by omega) (by omega) (by omega) h _) (by decide +kernel : decode cX5_common 4 = .ok (.invokevirtual 78, 3)) (by decide) rfl rfl rfl rfl jok51 (Nat.le_of_ble_eq_true rfl) (fun v4 m4 h4 => ?_)
  obtain ⟨rfl, e4⟩ := h4
  obtain rfl := e4.symm
  refine g_if_eq hF (tgt := 12) (by decide +kernel : decode cX5_common 7 = .ok (.ifCond .eq 5, 3)) (by decide) (by omega) (fun c7 => ?_) (fun c7 => ?_)
  · skip
    exact absurd c7 (by decide)
  · skip
    refine g_iconst hF (by decide +kernel : decode cX5_common 10 = .ok (.iconst 0, 1)) ?_
    refine g_ireturn hF hQ (by decide +kernel : decode cX5_common 11 = .ok (.ireturn, 1)) ?_
    exact ⟨rfl, rfl⟩
set_option maxHeartbeats 4000000 in
set_option maxRecDepth 100000 in
theorem c_X5_alike (X : jX) (hX : jxok X) (s : Nat) (hs : s < 8) (u : Nat) (hu : u < 8) (w : Nat) (hw : w < 8) (m : jM) (hI : MI m) : Con X yX5_alike cX5_alike 5 (some .int) 8 [vR 2 51, vI s, vI u, vI w] m (fun o m' => o = some (vI (cnt (fun z => if mR m s z = mR m u z then mR m s z else -2))) ∧ MW (mset m 51 2 0) w (fun z => if mR m s z = mR m u z then mR m s z else -2) m') := by
  refine Con.of hX (by decide) (Nat.le_of_ble_eq_true rfl) (fun F hF hQ => ?_)
  have hr := hI.1 s hs
  have hr2 := hI.1 u hu
  refine g_aload_n hF (by decide +kernel : decode cX5_alike 0 = .ok (.aload_n 0, 1)) rfl ?_
  refine g_iload_n hF (by decide +kernel : decode cX5_alike 1 = .ok (.iload_n 1, 1)) rfl ?_
  refine g_iload_n hF (by decide +kernel : decode cX5_alike 2 = .ok (.iload_n 2, 1)) rfl ?_
  refine g_iload_n hF (by decide +kernel : decode cX5_alike 3 = .ok (.iload_n 3, 1)) rfl ?_
  refine g_callV hF lkX5_78 (y_X5_areNone X hX _ (by omega) _ (by omega) _ (by omega) _) (by decide +kernel : decode cX5_alike 4 = .ok (.invokevirtual 78, 3)) (by decide) rfl rfl rfl rfl jok51 (Nat.le_of_ble_eq_true rfl) (fun v4 m4 h4 => ?_)
  obtain ⟨rfl, e4⟩ := h4
  have S0 : MSm m m4 := by rw [e4]; exact MSm_code m (Or.inl rfl) 0
  have I0 := MI_S hI S0
  have z0 : m4 51 2 = 0 := by rw [e4, mset_at]
  have r0 : ∀ t : Nat, mR m4 t = mR m t := fun t => mR_52 (S0.1 52 (by decide) (by decide) (by decide)) t
  refine g_if_eq hF (tgt := 12) (by decide +kernel : decode cX5_alike 7 = .ok (.ifCond .eq 5, 3)) (by decide) (by omega) (fun c7 => ?_) (fun c7 => ?_)
  · skip
    refine g_iconst hF (by decide +kernel : decode cX5_alike 12 = .ok (.iconst 0, 1)) ?_
    refine g_istore hF (by decide +kernel : decode cX5_alike 13 = .ok (.istore 4, 2)) (by decide) ?_
    have loop : ∀ (n i : Nat) (mm : jM), i ≤ 257 → 258 ≤ i + n → mm = mrow m4 53 (upto (fun z => if mR m s z = mR m u z then mR m s z else -2) (m4 53) i) → jG F X mm 15 [(0, vR 2 51), (1, vI s), (2, vI u), (3, vI w), (4, vI i)] [] := by
      intro n
      induction n with
      | zero => intro i mm h1 h2; exact absurd h2 (by omega)
      | succ n ih =>
        intro i mm h1 h2 hc0
        have x52 : ∀ t : Nat, mm 52 (257 * (t : Int) + i) = mR m t i := fun t => by rw [hc0, mrow_ne (by decide)]; exact congrFun (r0 t) i
        have xR : ∀ t : Nat, mR mm t = mR m t := fun t => by rw [← r0]; exact mR_52 (by rw [hc0, mrow_ne (by decide)]) t
        refine g_iload hF (by decide +kernel : decode cX5_alike 15 = .ok (.iload 4, 2)) rfl ?_
        refine g_sipush hF (by decide +kernel : decode cX5_alike 17 = .ok (.sipush 257, 3)) (by decide) ?_
        refine g_icmp_ge hF (tgt := 83) (by decide +kernel : decode cX5_alike 20 = .ok (.if_icmp .ge 63, 3)) (by decide) (by omega) (by omega) (fun c20 => ?_) (fun c20 => ?_)
        · skip
          refine jG_m hc0 ?_
          obtain rfl : i = 257 := by omega
          refine g_eqv (mrow_eqv rfl upto_all) ?_
          have I2 : MI (mrow m4 53 (fun z => if mR m s z = mR m u z then mR m s z else -2)) := MI_S I0 (MSm_row (Or.inl rfl) _)
          have ro : rowok ((mrow m4 53 (fun z => if mR m s z = mR m u z then mR m s z else -2)) 53) := by rw [mrow_at]; exact rowok_if2 hr
          refine g_aload_n hF (by decide +kernel : decode cX5_alike 83 = .ok (.aload_n 0, 1)) rfl ?_
          refine g_iload_n hF (by decide +kernel : decode cX5_alike 84 = .ok (.iload_n 3, 1)) rfl ?_
          refine g_callV hF lkX5_75 (c_X5_becomes X hX _ (by omega) _ (by assumption) (by assumption)) (by decide +kernel : decode cX5_alike 85 = .ok (.invokevirtual 75, 3)) (by decide) rfl rfl rfl rfl jok51 (Nat.le_of_ble_eq_true rfl) (fun v85 m85 h85 => ?_)
          obtain ⟨rfl, w85⟩ := h85
          rw [mrow_at] at w85 ⊢
          have cw := MW_made w85
          rw [e4] at cw
          refine g_ireturn hF hQ (by decide +kernel : decode cX5_alike 88 = .ok (.ireturn, 1)) ?_
          exact ⟨rfl, cw⟩
        · skip
          have b1 := hr i (by omega) (by omega)
          have b2 := hr2 i (by omega) (by omega)
          refine g_aload_n hF (by decide +kernel : decode cX5_alike 23 = .ok (.aload_n 0, 1)) rfl ?_
          refine g_getC hF lkX5_13 (by decide +kernel : decode cX5_alike 24 = .ok (.getfield 13, 3)) jok51 rfl rfl ?_
          refine g_iload hF (by decide +kernel : decode cX5_alike 27 = .ok (.iload 4, 2)) rfl ?_
          refine g_aload_n hF (by decide +kernel : decode cX5_alike 29 = .ok (.aload_n 0, 1)) rfl ?_
          refine g_getC hF lkX5_7 (by decide +kernel : decode cX5_alike 30 = .ok (.getfield 7, 3)) jok51 rfl rfl ?_
          refine g_sipush hF (by decide +kernel : decode cX5_alike 33 = .ok (.sipush 257, 3)) (by decide) ?_
          refine g_iload_n hF (by decide +kernel : decode cX5_alike 36 = .ok (.iload_n 2, 1)) rfl ?_
          refine g_imul hF (by decide +kernel : decode cX5_alike 37 = .ok (.imul, 1)) ?_
          refine g_iload hF (by decide +kernel : decode cX5_alike 38 = .ok (.iload 4, 2)) rfl ?_
          refine g_iadd hF (by decide +kernel : decode cX5_alike 40 = .ok (.iadd, 1)) ?_
          refine g_ldC hF (n := 2056) (by decide +kernel : decode cX5_alike 41 = .ok (.iaload, 1)) jrr52 rfl (by omega) ?_
          first | rw [x52 u] | skip
          refine g_aload_n hF (by decide +kernel : decode cX5_alike 42 = .ok (.aload_n 0, 1)) rfl ?_
          refine g_getC hF lkX5_7 (by decide +kernel : decode cX5_alike 43 = .ok (.getfield 7, 3)) jok51 rfl rfl ?_
          refine g_sipush hF (by decide +kernel : decode cX5_alike 46 = .ok (.sipush 257, 3)) (by decide) ?_
          refine g_iload_n hF (by decide +kernel : decode cX5_alike 49 = .ok (.iload_n 1, 1)) rfl ?_
          refine g_imul hF (by decide +kernel : decode cX5_alike 50 = .ok (.imul, 1)) ?_
          refine g_iload hF (by decide +kernel : decode cX5_alike 51 = .ok (.iload 4, 2)) rfl ?_
          refine g_iadd hF (by decide +kernel : decode cX5_alike 53 = .ok (.iadd, 1)) ?_
          refine g_ldC hF (n := 2056) (by decide +kernel : decode cX5_alike 54 = .ok (.iaload, 1)) jrr52 rfl (by omega) ?_
          first | rw [x52 s] | skip
          refine g_icmp_ne hF (tgt := 74) (by decide +kernel : decode cX5_alike 55 = .ok (.if_icmp .ne 19, 3)) (by decide) (by omega) (by omega) (fun c55 => ?_) (fun c55 => ?_)
          · skip
            refine g_bipush hF (by decide +kernel : decode cX5_alike 74 = .ok (.bipush (-2), 2)) (by decide) ?_
            refine g_stC hF (n := 257) (by decide +kernel : decode cX5_alike 76 = .ok (.iastore, 1)) jrr53 rfl (by omega) ?_
            refine g_iinc hF (by decide +kernel : decode cX5_alike 77 = .ok (.iinc 4 1, 3)) rfl (by decide) ?_
            refine g_goto hF (tgt := 15) (by decide +kernel : decode cX5_alike 80 = .ok (.goto (-65), 3)) (by decide) ?_
            exact ih (i + 1) _ (by omega) (by omega) (by rw [mset_row, hc0, mrow_mrow, mrow_at, upto_put (g := fun z => if mR m s z = mR m u z then mR m s z else -2) (f := m4 53) (i := i) (by exact (if_neg (fun q => c55 q.symm)).symm)])
          · skip
            refine g_aload_n hF (by decide +kernel : decode cX5_alike 58 = .ok (.aload_n 0, 1)) rfl ?_
            refine g_getC hF lkX5_7 (by decide +kernel : decode cX5_alike 59 = .ok (.getfield 7, 3)) jok51 rfl rfl ?_
            refine g_sipush hF (by decide +kernel : decode cX5_alike 62 = .ok (.sipush 257, 3)) (by decide) ?_
            refine g_iload_n hF (by decide +kernel : decode cX5_alike 65 = .ok (.iload_n 1, 1)) rfl ?_
            refine g_imul hF (by decide +kernel : decode cX5_alike 66 = .ok (.imul, 1)) ?_
            refine g_iload hF (by decide +kernel : decode cX5_alike 67 = .ok (.iload 4, 2)) rfl ?_
            refine g_iadd hF (by decide +kernel : decode cX5_alike 69 = .ok (.iadd, 1)) ?_
            refine g_ldC hF (n := 2056) (by decide +kernel : decode cX5_alike 70 = .ok (.iaload, 1)) jrr52 rfl (by omega) ?_
            first | rw [x52 s] | skip
            refine g_goto hF (tgt := 76) (by decide +kernel : decode cX5_alike 71 = .ok (.goto 5, 3)) (by decide) ?_
            refine g_stC hF (n := 257) (by decide +kernel : decode cX5_alike 76 = .ok (.iastore, 1)) jrr53 rfl (by omega) ?_
            refine g_iinc hF (by decide +kernel : decode cX5_alike 77 = .ok (.iinc 4 1, 3)) rfl (by decide) ?_
            refine g_goto hF (tgt := 15) (by decide +kernel : decode cX5_alike 80 = .ok (.goto (-65), 3)) (by decide) ?_
            exact ih (i + 1) _ (by omega) (by omega) (by rw [mset_row, hc0, mrow_mrow, mrow_at, upto_put (g := fun z => if mR m s z = mR m u z then mR m s z else -2) (f := m4 53) (i := i) (by exact (if_pos c55.symm).symm)])
    exact loop 258 0 _ (by omega) (by omega) (by rw [show ((0 : Nat) : Int) = 0 from rfl, upto_0, mrow_self])
  · skip
    exact absurd c7 (by decide)
set_option maxHeartbeats 4000000 in
set_option maxRecDepth 100000 in
theorem n1_X5_alike (X : jX) (hX : jxok X) (s : Int) (js : jr s) (u : Int) (ju : jr u) (w : Int) (jw : jr w) (m : jM) (h : ¬ ((0 ≤ s ∧ s < 8) ∧ (0 ≤ u ∧ u < 8) ∧ (0 ≤ w ∧ w < 8))) : Con X yX5_alike cX5_alike 5 (some .int) 8 [vR 2 51, vI s, vI u, vI w] m (fun o m' => o = some (vI 0) ∧ m' = mset m 51 2 1) := by
  refine Con.of hX (by decide) (Nat.le_of_ble_eq_true rfl) (fun F hF hQ => ?_)
  refine g_aload_n hF (by decide +kernel : decode cX5_alike 0 = .ok (.aload_n 0, 1)) rfl ?_
  refine g_iload_n hF (by decide +kernel : decode cX5_alike 1 = .ok (.iload_n 1, 1)) rfl ?_
  refine g_iload_n hF (by decide +kernel : decode cX5_alike 2 = .ok (.iload_n 2, 1)) rfl ?_
  refine g_iload_n hF (by decide +kernel : decode cX5_alike 3 = .ok (.iload_n 3, 1)) rfl ?_
  refine g_callV hF lkX5_78 (n_X5_areNone X hX _ _ _ (by omega) (by omega) (by omega) h _) (by decide +kernel : decode cX5_alike 4 = .ok (.invokevirtual 78, 3)) (by decide) rfl rfl rfl rfl jok51 (Nat.le_of_ble_eq_true rfl) (fun v4 m4 h4 => ?_)
  obtain ⟨rfl, e4⟩ := h4
  obtain rfl := e4.symm
  refine g_if_eq hF (tgt := 12) (by decide +kernel : decode cX5_alike 7 = .ok (.ifCond .eq 5, 3)) (by decide) (by omega) (fun c7 => ?_) (fun c7 => ?_)
  · skip
    exact absurd c7 (by decide)
  · skip
    refine g_iconst hF (by decide +kernel : decode cX5_alike 10 = .ok (.iconst 0, 1)) ?_
    refine g_ireturn hF hQ (by decide +kernel : decode cX5_alike 11 = .ok (.ireturn, 1)) ?_
    exact ⟨rfl, rfl⟩
set_option maxHeartbeats 4000000 in
set_option maxRecDepth 100000 in
theorem c_X5_behind (X : jX) (hX : jxok X) (s : Nat) (hs : s < 8) (u : Nat) (hu : u < 8) (w : Nat) (hw : w < 8) (m : jM) (hI : MI m) : Con X yX5_behind cX5_behind 5 (some .int) 8 [vR 2 51, vI s, vI u, vI w] m (fun o m' => o = some (vI (cnt (fun z => if mR m s z = -2 then -2 else tat (mR m u) (mR m s z)))) ∧ MW (mset m 51 2 0) w (fun z => if mR m s z = -2 then -2 else tat (mR m u) (mR m s z)) m') := by
  refine Con.of hX (by decide) (Nat.le_of_ble_eq_true rfl) (fun F hF hQ => ?_)
  have hr := hI.1 s hs
  have hr2 := hI.1 u hu
  refine g_aload_n hF (by decide +kernel : decode cX5_behind 0 = .ok (.aload_n 0, 1)) rfl ?_
  refine g_iload_n hF (by decide +kernel : decode cX5_behind 1 = .ok (.iload_n 1, 1)) rfl ?_
  refine g_iload_n hF (by decide +kernel : decode cX5_behind 2 = .ok (.iload_n 2, 1)) rfl ?_
  refine g_iload_n hF (by decide +kernel : decode cX5_behind 3 = .ok (.iload_n 3, 1)) rfl ?_
  refine g_callV hF lkX5_78 (y_X5_areNone X hX _ (by omega) _ (by omega) _ (by omega) _) (by decide +kernel : decode cX5_behind 4 = .ok (.invokevirtual 78, 3)) (by decide) rfl rfl rfl rfl jok51 (Nat.le_of_ble_eq_true rfl) (fun v4 m4 h4 => ?_)
  obtain ⟨rfl, e4⟩ := h4
  have S0 : MSm m m4 := by rw [e4]; exact MSm_code m (Or.inl rfl) 0
  have I0 := MI_S hI S0
  have z0 : m4 51 2 = 0 := by rw [e4, mset_at]
  have r0 : ∀ t : Nat, mR m4 t = mR m t := fun t => mR_52 (S0.1 52 (by decide) (by decide) (by decide)) t
  refine g_if_eq hF (tgt := 12) (by decide +kernel : decode cX5_behind 7 = .ok (.ifCond .eq 5, 3)) (by decide) (by omega) (fun c7 => ?_) (fun c7 => ?_)
  · skip
    refine g_iconst hF (by decide +kernel : decode cX5_behind 12 = .ok (.iconst 0, 1)) ?_
    refine g_istore hF (by decide +kernel : decode cX5_behind 13 = .ok (.istore 4, 2)) (by decide) ?_
    have loop : ∀ (n i : Nat) (mm : jM), i ≤ 257 → 258 ≤ i + n → mm = mrow m4 53 (upto (fun z => if mR m s z = -2 then -2 else tat (mR m u) (mR m s z)) (m4 53) i) → jG F X mm 15 [(0, vR 2 51), (1, vI s), (2, vI u), (3, vI w), (4, vI i)] [] := by
      intro n
      induction n with
      | zero => intro i mm h1 h2; exact absurd h2 (by omega)
      | succ n ih =>
        intro i mm h1 h2 hc0
        have x52 : ∀ t : Nat, mm 52 (257 * (t : Int) + i) = mR m t i := fun t => by rw [hc0, mrow_ne (by decide)]; exact congrFun (r0 t) i
        have xR : ∀ t : Nat, mR mm t = mR m t := fun t => by rw [← r0]; exact mR_52 (by rw [hc0, mrow_ne (by decide)]) t
        refine g_iload hF (by decide +kernel : decode cX5_behind 15 = .ok (.iload 4, 2)) rfl ?_
        refine g_sipush hF (by decide +kernel : decode cX5_behind 17 = .ok (.sipush 257, 3)) (by decide) ?_
        refine g_icmp_ge hF (tgt := 77) (by decide +kernel : decode cX5_behind 20 = .ok (.if_icmp .ge 57, 3)) (by decide) (by omega) (by omega) (fun c20 => ?_) (fun c20 => ?_)
        · skip
          refine jG_m hc0 ?_
          obtain rfl : i = 257 := by omega
          refine g_eqv (mrow_eqv rfl upto_all) ?_
          have I2 : MI (mrow m4 53 (fun z => if mR m s z = -2 then -2 else tat (mR m u) (mR m s z))) := MI_S I0 (MSm_row (Or.inl rfl) _)
          have ro : rowok ((mrow m4 53 (fun z => if mR m s z = -2 then -2 else tat (mR m u) (mR m s z))) 53) := by rw [mrow_at]; exact comp_ok (h := mR m u) (g := mR m s) hr2
          refine g_aload_n hF (by decide +kernel : decode cX5_behind 77 = .ok (.aload_n 0, 1)) rfl ?_
          refine g_iload_n hF (by decide +kernel : decode cX5_behind 78 = .ok (.iload_n 3, 1)) rfl ?_
          refine g_callV hF lkX5_75 (c_X5_becomes X hX _ (by omega) _ (by assumption) (by assumption)) (by decide +kernel : decode cX5_behind 79 = .ok (.invokevirtual 75, 3)) (by decide) rfl rfl rfl rfl jok51 (Nat.le_of_ble_eq_true rfl) (fun v79 m79 h79 => ?_)
          obtain ⟨rfl, w79⟩ := h79
          rw [mrow_at] at w79 ⊢
          have cw := MW_made w79
          rw [e4] at cw
          refine g_ireturn hF hQ (by decide +kernel : decode cX5_behind 82 = .ok (.ireturn, 1)) ?_
          exact ⟨rfl, cw⟩
        · skip
          have b1 := hr i (by omega) (by omega)
          refine g_aload_n hF (by decide +kernel : decode cX5_behind 23 = .ok (.aload_n 0, 1)) rfl ?_
          refine g_getC hF lkX5_13 (by decide +kernel : decode cX5_behind 24 = .ok (.getfield 13, 3)) jok51 rfl rfl ?_
          refine g_iload hF (by decide +kernel : decode cX5_behind 27 = .ok (.iload 4, 2)) rfl ?_
          refine g_aload_n hF (by decide +kernel : decode cX5_behind 29 = .ok (.aload_n 0, 1)) rfl ?_
          refine g_getC hF lkX5_7 (by decide +kernel : decode cX5_behind 30 = .ok (.getfield 7, 3)) jok51 rfl rfl ?_
          refine g_sipush hF (by decide +kernel : decode cX5_behind 33 = .ok (.sipush 257, 3)) (by decide) ?_
          refine g_iload_n hF (by decide +kernel : decode cX5_behind 36 = .ok (.iload_n 1, 1)) rfl ?_
          refine g_imul hF (by decide +kernel : decode cX5_behind 37 = .ok (.imul, 1)) ?_
          refine g_iload hF (by decide +kernel : decode cX5_behind 38 = .ok (.iload 4, 2)) rfl ?_
          refine g_iadd hF (by decide +kernel : decode cX5_behind 40 = .ok (.iadd, 1)) ?_
          refine g_ldC hF (n := 2056) (by decide +kernel : decode cX5_behind 41 = .ok (.iaload, 1)) jrr52 rfl (by omega) ?_
          rw [x52 s]
          refine g_bipush hF (by decide +kernel : decode cX5_behind 42 = .ok (.bipush (-2), 2)) (by decide) ?_
          refine g_icmp_ne hF (tgt := 52) (by decide +kernel : decode cX5_behind 44 = .ok (.if_icmp .ne 8, 3)) (by decide) (by omega) (by omega) (fun c44 => ?_) (fun c44 => ?_)
          · skip
            refine g_aload_n hF (by decide +kernel : decode cX5_behind 52 = .ok (.aload_n 0, 1)) rfl ?_
            refine g_iload_n hF (by decide +kernel : decode cX5_behind 53 = .ok (.iload_n 2, 1)) rfl ?_
            refine g_aload_n hF (by decide +kernel : decode cX5_behind 54 = .ok (.aload_n 0, 1)) rfl ?_
            refine g_getC hF lkX5_7 (by decide +kernel : decode cX5_behind 55 = .ok (.getfield 7, 3)) jok51 rfl rfl ?_
            refine g_sipush hF (by decide +kernel : decode cX5_behind 58 = .ok (.sipush 257, 3)) (by decide) ?_
            refine g_iload_n hF (by decide +kernel : decode cX5_behind 61 = .ok (.iload_n 1, 1)) rfl ?_
            refine g_imul hF (by decide +kernel : decode cX5_behind 62 = .ok (.imul, 1)) ?_
            refine g_iload hF (by decide +kernel : decode cX5_behind 63 = .ok (.iload 4, 2)) rfl ?_
            refine g_iadd hF (by decide +kernel : decode cX5_behind 65 = .ok (.iadd, 1)) ?_
            refine g_ldC hF (n := 2056) (by decide +kernel : decode cX5_behind 66 = .ok (.iaload, 1)) jrr52 rfl (by omega) ?_
            rw [x52 s]
            refine g_callV hF lkX5_60 (c_X5_at X hX _ (by omega) _ (show num _ from ⟨by omega, by omega⟩) _) (by decide +kernel : decode cX5_behind 67 = .ok (.invokevirtual 60, 3)) (by decide) rfl rfl rfl rfl jok51 (Nat.le_of_ble_eq_true rfl) (fun v67 m67 h67 => ?_)
            obtain ⟨rfl, e67⟩ := h67
            obtain rfl := e67.symm
            rw [xR u]
            refine g_stC hF (n := 257) (by decide +kernel : decode cX5_behind 70 = .ok (.iastore, 1)) jrr53 rfl (by omega) ?_
            refine g_iinc hF (by decide +kernel : decode cX5_behind 71 = .ok (.iinc 4 1, 3)) rfl (by decide) ?_
            refine g_goto hF (tgt := 15) (by decide +kernel : decode cX5_behind 74 = .ok (.goto (-59), 3)) (by decide) ?_
            exact ih (i + 1) _ (by omega) (by omega) (by rw [mset_row, hc0, mrow_mrow, mrow_at, upto_put (g := fun z => if mR m s z = -2 then -2 else tat (mR m u) (mR m s z)) (f := m4 53) (i := i) (by show _ = if mR m s i = -2 then -2 else tat (mR m u) (mR m s i); rw [if_neg c44, tat_in ⟨by omega, by omega⟩])])
          · skip
            refine g_bipush hF (by decide +kernel : decode cX5_behind 47 = .ok (.bipush (-2), 2)) (by decide) ?_
            refine g_goto hF (tgt := 70) (by decide +kernel : decode cX5_behind 49 = .ok (.goto 21, 3)) (by decide) ?_
            refine g_stC hF (n := 257) (by decide +kernel : decode cX5_behind 70 = .ok (.iastore, 1)) jrr53 rfl (by omega) ?_
            refine g_iinc hF (by decide +kernel : decode cX5_behind 71 = .ok (.iinc 4 1, 3)) rfl (by decide) ?_
            refine g_goto hF (tgt := 15) (by decide +kernel : decode cX5_behind 74 = .ok (.goto (-59), 3)) (by decide) ?_
            exact ih (i + 1) _ (by omega) (by omega) (by rw [mset_row, hc0, mrow_mrow, mrow_at, upto_put (g := fun z => if mR m s z = -2 then -2 else tat (mR m u) (mR m s z)) (f := m4 53) (i := i) (by exact (if_pos c44).symm)])
    exact loop 258 0 _ (by omega) (by omega) (by rw [show ((0 : Nat) : Int) = 0 from rfl, upto_0, mrow_self])
  · skip
    exact absurd c7 (by decide)
set_option maxHeartbeats 4000000 in
set_option maxRecDepth 100000 in
theorem n1_X5_behind (X : jX) (hX : jxok X) (s : Int) (js : jr s) (u : Int) (ju : jr u) (w : Int) (jw : jr w) (m : jM) (h : ¬ ((0 ≤ s ∧ s < 8) ∧ (0 ≤ u ∧ u < 8) ∧ (0 ≤ w ∧ w < 8))) : Con X yX5_behind cX5_behind 5 (some .int) 8 [vR 2 51, vI s, vI u, vI w] m (fun o m' => o = some (vI 0) ∧ m' = mset m 51 2 1) := by
  refine Con.of hX (by decide) (Nat.le_of_ble_eq_true rfl) (fun F hF hQ => ?_)
  refine g_aload_n hF (by decide +kernel : decode cX5_behind 0 = .ok (.aload_n 0, 1)) rfl ?_
  refine g_iload_n hF (by decide +kernel : decode cX5_behind 1 = .ok (.iload_n 1, 1)) rfl ?_
  refine g_iload_n hF (by decide +kernel : decode cX5_behind 2 = .ok (.iload_n 2, 1)) rfl ?_
  refine g_iload_n hF (by decide +kernel : decode cX5_behind 3 = .ok (.iload_n 3, 1)) rfl ?_
  refine g_callV hF lkX5_78 (n_X5_areNone X hX _ _ _ (by omega) (by omega) (by omega) h _) (by decide +kernel : decode cX5_behind 4 = .ok (.invokevirtual 78, 3)) (by decide) rfl rfl rfl rfl jok51 (Nat.le_of_ble_eq_true rfl) (fun v4 m4 h4 => ?_)
  obtain ⟨rfl, e4⟩ := h4
  obtain rfl := e4.symm
  refine g_if_eq hF (tgt := 12) (by decide +kernel : decode cX5_behind 7 = .ok (.ifCond .eq 5, 3)) (by decide) (by omega) (fun c7 => ?_) (fun c7 => ?_)
  · skip
    exact absurd c7 (by decide)
  · skip
    refine g_iconst hF (by decide +kernel : decode cX5_behind 10 = .ok (.iconst 0, 1)) ?_
    refine g_ireturn hF hQ (by decide +kernel : decode cX5_behind 11 = .ok (.ireturn, 1)) ?_
    exact ⟨rfl, rfl⟩

set_option maxHeartbeats 4000000 in
set_option maxRecDepth 100000 in
theorem c_X4_isNumber (X : jX) (hX : jxok X) (k : Int) (hk : jr k) (m : jM) : Con X yX4_isNumber cX4_isNumber 1 (some .boolean) 1 [vI k] m (fun o m' => o = some (vI (if -1 ≤ k ∧ k ≤ 255 then 1 else 0)) ∧ m' = m) := by
  refine Con.of hX (by decide) (Nat.le_of_ble_eq_true rfl) (fun F hF hQ => ?_)
  refine g_iload_n hF (by decide +kernel : decode cX4_isNumber 0 = .ok (.iload_n 0, 1)) rfl ?_
  refine g_iconst hF (by decide +kernel : decode cX4_isNumber 1 = .ok (.iconst (-1), 1)) ?_
  refine g_icmp_lt hF (tgt := 16) (by decide +kernel : decode cX4_isNumber 2 = .ok (.if_icmp .lt 14, 3)) (by decide) (by omega) (by omega) (fun c2 => ?_) (fun c2 => ?_)
  · skip
    refine g_iconst hF (by decide +kernel : decode cX4_isNumber 16 = .ok (.iconst 0, 1)) ?_
    refine g_zreturn hF hQ (by decide +kernel : decode cX4_isNumber 17 = .ok (.ireturn, 1)) (by first | exact Or.inl rfl | exact Or.inr rfl | omega) ?_
    exact ⟨by first | rw [if_pos (by omega)] | rw [if_neg (by omega)], rfl⟩
  · skip
    refine g_iload_n hF (by decide +kernel : decode cX4_isNumber 5 = .ok (.iload_n 0, 1)) rfl ?_
    refine g_sipush hF (by decide +kernel : decode cX4_isNumber 6 = .ok (.sipush 255, 3)) (by decide) ?_
    refine g_icmp_gt hF (tgt := 16) (by decide +kernel : decode cX4_isNumber 9 = .ok (.if_icmp .gt 7, 3)) (by decide) (by omega) (by omega) (fun c9 => ?_) (fun c9 => ?_)
    · skip
      refine g_iconst hF (by decide +kernel : decode cX4_isNumber 16 = .ok (.iconst 0, 1)) ?_
      refine g_zreturn hF hQ (by decide +kernel : decode cX4_isNumber 17 = .ok (.ireturn, 1)) (by first | exact Or.inl rfl | exact Or.inr rfl | omega) ?_
      exact ⟨by first | rw [if_pos (by omega)] | rw [if_neg (by omega)], rfl⟩
    · skip
      refine g_iconst hF (by decide +kernel : decode cX4_isNumber 12 = .ok (.iconst 1, 1)) ?_
      refine g_goto hF (tgt := 17) (by decide +kernel : decode cX4_isNumber 13 = .ok (.goto 4, 3)) (by decide) ?_
      refine g_zreturn hF hQ (by decide +kernel : decode cX4_isNumber 17 = .ok (.ireturn, 1)) (by first | exact Or.inl rfl | exact Or.inr rfl | omega) ?_
      exact ⟨by first | rw [if_pos (by omega)] | rw [if_neg (by omega)], rfl⟩
set_option maxHeartbeats 4000000 in
set_option maxRecDepth 100000 in
theorem c_X2_at (X : jX) (hX : jxok X) (t : Nat) (ht : t < 19) (k : Int) (hk : jr k) (m : jM) : Con X yX2_at cX2_at 2 (some .int) 2 [vR 1 t, vI k] m (fun o m' => o = some (vI (tat (m t) k)) ∧ m' = m) := by
  refine Con.of hX (by decide) (Nat.le_of_ble_eq_true rfl) (fun F hF hQ => ?_)
  refine g_iload_n hF (by decide +kernel : decode cX2_at 0 = .ok (.iload_n 1, 1)) rfl ?_
  refine g_callN hF lkX2_25 (c_X4_isNumber X hX _ (by omega) _) (by decide +kernel : decode cX2_at 1 = .ok (.invokestatic 25, 3)) (by decide) rfl rfl (Nat.le_of_ble_eq_true rfl) (fun v1 m1 h1 => ?_)
  obtain ⟨rfl, e1⟩ := h1
  obtain rfl := e1.symm
  refine g_if_eq hF (tgt := 18) (by decide +kernel : decode cX2_at 4 = .ok (.ifCond .eq 14, 3)) (by decide) (by omega) (fun c4 => ?_) (fun c4 => ?_)
  · skip
    have q4 := i01_f c4
    refine g_bipush hF (by decide +kernel : decode cX2_at 18 = .ok (.bipush (-2), 2)) (by decide) ?_
    refine g_ireturn hF hQ (by decide +kernel : decode cX2_at 20 = .ok (.ireturn, 1)) ?_
    exact ⟨by rw [tat_out q4], rfl⟩
  · skip
    have q4 := i01_t c4
    refine g_aload_n hF (by decide +kernel : decode cX2_at 7 = .ok (.aload_n 0, 1)) rfl ?_
    refine g_told hF lkX2_9 (by decide +kernel : decode cX2_at 8 = .ok (.getfield 9, 3)) ht ?_
    refine g_iload_n hF (by decide +kernel : decode cX2_at 11 = .ok (.iload_n 1, 1)) rfl ?_
    refine g_iconst hF (by decide +kernel : decode cX2_at 12 = .ok (.iconst 1, 1)) ?_
    refine g_iadd hF (by decide +kernel : decode cX2_at 13 = .ok (.iadd, 1)) ?_
    refine g_tld hF (by decide +kernel : decode cX2_at 14 = .ok (.iaload, 1)) ht (by omega) ?_
    refine g_goto hF (tgt := 20) (by decide +kernel : decode cX2_at 15 = .ok (.goto 5, 3)) (by decide) ?_
    refine g_ireturn hF hQ (by decide +kernel : decode cX2_at 20 = .ok (.ireturn, 1)) ?_
    exact ⟨by rw [tat_in q4], rfl⟩
set_option maxHeartbeats 4000000 in
set_option maxRecDepth 100000 in
theorem c_X2_isKey (X : jX) (hX : jxok X) (t : Nat) (ht : t < 19) (k : Int) (hk : jr k) (m : jM) (hm : rowok (m t)) : Con X yX2_isKey cX2_isKey 2 (some .boolean) 3 [vR 1 t, vI k] m (fun o m' => o = some (vI (if tat (m t) k = -2 then 0 else 1)) ∧ m' = m) := by
  refine Con.of hX (by decide) (Nat.le_of_ble_eq_true rfl) (fun F hF hQ => ?_)
  refine g_aload_n hF (by decide +kernel : decode cX2_isKey 0 = .ok (.aload_n 0, 1)) rfl ?_
  refine g_iload_n hF (by decide +kernel : decode cX2_isKey 1 = .ok (.iload_n 1, 1)) rfl ?_
  refine g_callV hF lkX2_29 (c_X2_at X hX _ ht _ (by omega) _) (by decide +kernel : decode cX2_isKey 2 = .ok (.invokevirtual 29, 3)) (by decide) rfl rfl rfl rfl ht (Nat.le_of_ble_eq_true rfl) (fun v2 m2 h2 => ?_)
  obtain ⟨rfl, e2⟩ := h2
  obtain rfl := e2.symm
  refine g_bipush hF (by decide +kernel : decode cX2_isKey 5 = .ok (.bipush (-2), 2)) (by decide) ?_
  have q7 := tat_b hm k
  refine g_icmp_eq hF (tgt := 14) (by decide +kernel : decode cX2_isKey 7 = .ok (.if_icmp .eq 7, 3)) (by decide) (by omega) (by omega) (fun c7 => ?_) (fun c7 => ?_)
  · skip
    refine g_iconst hF (by decide +kernel : decode cX2_isKey 14 = .ok (.iconst 0, 1)) ?_
    refine g_zreturn hF hQ (by decide +kernel : decode cX2_isKey 15 = .ok (.ireturn, 1)) (by first | exact Or.inl rfl | exact Or.inr rfl | omega) ?_
    exact ⟨by first | rw [if_pos (by omega)] | rw [if_neg (by omega)], rfl⟩
  · skip
    refine g_iconst hF (by decide +kernel : decode cX2_isKey 10 = .ok (.iconst 1, 1)) ?_
    refine g_goto hF (tgt := 15) (by decide +kernel : decode cX2_isKey 11 = .ok (.goto 4, 3)) (by decide) ?_
    refine g_zreturn hF hQ (by decide +kernel : decode cX2_isKey 15 = .ok (.ireturn, 1)) (by first | exact Or.inl rfl | exact Or.inr rfl | omega) ?_
    exact ⟨by first | rw [if_pos (by omega)] | rw [if_neg (by omega)], rfl⟩
set_option maxHeartbeats 4000000 in
set_option maxRecDepth 100000 in
theorem c_X2_mark (X : jX) (hX : jxok X) (t : Nat) (ht : t < 19) (k v : Int) (hk : jr k) (hv : -2 ≤ v ∧ v ≤ 255) (m : jM) (hm : tok m t) : Con X yX2_mark cX2_mark 3 none 2 [vR 1 t, vI k, vI v] m (fun o m' => o = none ∧ m' = tset m t (fmark (m t) k v)) := by
  refine Con.of hX (by decide) (Nat.le_of_ble_eq_true rfl) (fun F hF hQ => ?_)
  refine g_iload_n hF (by decide +kernel : decode cX2_mark 0 = .ok (.iload_n 1, 1)) rfl ?_
  refine g_callN hF lkX2_25 (c_X4_isNumber X hX _ (by omega) _) (by decide +kernel : decode cX2_mark 1 = .ok (.invokestatic 25, 3)) (by decide) rfl rfl (Nat.le_of_ble_eq_true rfl) (fun v1 m1 h1 => ?_)
  obtain ⟨rfl, e1⟩ := h1
  obtain rfl := e1.symm
  refine g_if_ne hF (tgt := 8) (by decide +kernel : decode cX2_mark 4 = .ok (.ifCond .ne 4, 3)) (by decide) (by omega) (fun c4 => ?_) (fun c4 => ?_)
  · skip
    have q4 := i01_t c4
    have q5 := hm.1 (k + 1) (by omega) (by omega)
    refine g_aload_n hF (by decide +kernel : decode cX2_mark 8 = .ok (.aload_n 0, 1)) rfl ?_
    refine g_dup hF (by decide +kernel : decode cX2_mark 9 = .ok (.dup, 1)) rfl ?_
    refine g_tcnt hF lkX2_15 (by decide +kernel : decode cX2_mark 10 = .ok (.getfield 15, 3)) ht ?_
    refine g_iload_n hF (by decide +kernel : decode cX2_mark 13 = .ok (.iload_n 2, 1)) rfl ?_
    refine g_bipush hF (by decide +kernel : decode cX2_mark 14 = .ok (.bipush (-2), 2)) (by decide) ?_
    refine g_icmp_ne hF (tgt := 23) (by decide +kernel : decode cX2_mark 16 = .ok (.if_icmp .ne 7, 3)) (by decide) (by omega) (by omega) (fun c16 => ?_) (fun c16 => ?_)
    · skip
      refine g_iconst hF (by decide +kernel : decode cX2_mark 23 = .ok (.iconst 1, 1)) ?_
      refine g_aload_n hF (by decide +kernel : decode cX2_mark 24 = .ok (.aload_n 0, 1)) rfl ?_
      refine g_told hF lkX2_9 (by decide +kernel : decode cX2_mark 25 = .ok (.getfield 9, 3)) ht ?_
      refine g_iload_n hF (by decide +kernel : decode cX2_mark 28 = .ok (.iload_n 1, 1)) rfl ?_
      refine g_iconst hF (by decide +kernel : decode cX2_mark 29 = .ok (.iconst 1, 1)) ?_
      refine g_iadd hF (by decide +kernel : decode cX2_mark 30 = .ok (.iadd, 1)) ?_
      refine g_tld hF (by decide +kernel : decode cX2_mark 31 = .ok (.iaload, 1)) ht (by omega) ?_
      refine g_bipush hF (by decide +kernel : decode cX2_mark 32 = .ok (.bipush (-2), 2)) (by decide) ?_
      refine g_icmp_ne hF (tgt := 41) (by decide +kernel : decode cX2_mark 34 = .ok (.if_icmp .ne 7, 3)) (by decide) (by omega) (by omega) (fun c34 => ?_) (fun c34 => ?_)
      · skip
        refine g_iconst hF (by decide +kernel : decode cX2_mark 41 = .ok (.iconst 1, 1)) ?_
        refine g_isub hF (by decide +kernel : decode cX2_mark 42 = .ok (.isub, 1)) ?_
        refine g_iadd hF (by decide +kernel : decode cX2_mark 43 = .ok (.iadd, 1)) ?_
        refine g_tcntP hF lkPX2_15 (by decide +kernel : decode cX2_mark 44 = .ok (.putfield 15, 3)) ht ?_
        refine g_aload_n hF (by decide +kernel : decode cX2_mark 47 = .ok (.aload_n 0, 1)) rfl ?_
        refine g_told hF lkX2_9 (by decide +kernel : decode cX2_mark 48 = .ok (.getfield 9, 3)) ht ?_
        refine g_iload_n hF (by decide +kernel : decode cX2_mark 51 = .ok (.iload_n 1, 1)) rfl ?_
        refine g_iconst hF (by decide +kernel : decode cX2_mark 52 = .ok (.iconst 1, 1)) ?_
        refine g_iadd hF (by decide +kernel : decode cX2_mark 53 = .ok (.iadd, 1)) ?_
        refine g_iload_n hF (by decide +kernel : decode cX2_mark 54 = .ok (.iload_n 2, 1)) rfl ?_
        refine g_tst hF (by decide +kernel : decode cX2_mark 55 = .ok (.iastore, 1)) ht (by omega) ?_
        refine g_return hF hQ (by decide +kernel : decode cX2_mark 56 = .ok (.return_, 1)) ?_
        exact ⟨rfl, mark_mem ht hm.2 q4 rfl (by unfold pres; (repeat' split) <;> omega)⟩
      · skip
        refine g_iconst hF (by decide +kernel : decode cX2_mark 37 = .ok (.iconst 0, 1)) ?_
        refine g_goto hF (tgt := 42) (by decide +kernel : decode cX2_mark 38 = .ok (.goto 4, 3)) (by decide) ?_
        refine g_isub hF (by decide +kernel : decode cX2_mark 42 = .ok (.isub, 1)) ?_
        refine g_iadd hF (by decide +kernel : decode cX2_mark 43 = .ok (.iadd, 1)) ?_
        refine g_tcntP hF lkPX2_15 (by decide +kernel : decode cX2_mark 44 = .ok (.putfield 15, 3)) ht ?_
        refine g_aload_n hF (by decide +kernel : decode cX2_mark 47 = .ok (.aload_n 0, 1)) rfl ?_
        refine g_told hF lkX2_9 (by decide +kernel : decode cX2_mark 48 = .ok (.getfield 9, 3)) ht ?_
        refine g_iload_n hF (by decide +kernel : decode cX2_mark 51 = .ok (.iload_n 1, 1)) rfl ?_
        refine g_iconst hF (by decide +kernel : decode cX2_mark 52 = .ok (.iconst 1, 1)) ?_
        refine g_iadd hF (by decide +kernel : decode cX2_mark 53 = .ok (.iadd, 1)) ?_
        refine g_iload_n hF (by decide +kernel : decode cX2_mark 54 = .ok (.iload_n 2, 1)) rfl ?_
        refine g_tst hF (by decide +kernel : decode cX2_mark 55 = .ok (.iastore, 1)) ht (by omega) ?_
        refine g_return hF hQ (by decide +kernel : decode cX2_mark 56 = .ok (.return_, 1)) ?_
        exact ⟨rfl, mark_mem ht hm.2 q4 rfl (by unfold pres; (repeat' split) <;> omega)⟩
    · skip
      refine g_iconst hF (by decide +kernel : decode cX2_mark 19 = .ok (.iconst 0, 1)) ?_
      refine g_goto hF (tgt := 24) (by decide +kernel : decode cX2_mark 20 = .ok (.goto 4, 3)) (by decide) ?_
      refine g_aload_n hF (by decide +kernel : decode cX2_mark 24 = .ok (.aload_n 0, 1)) rfl ?_
      refine g_told hF lkX2_9 (by decide +kernel : decode cX2_mark 25 = .ok (.getfield 9, 3)) ht ?_
      refine g_iload_n hF (by decide +kernel : decode cX2_mark 28 = .ok (.iload_n 1, 1)) rfl ?_
      refine g_iconst hF (by decide +kernel : decode cX2_mark 29 = .ok (.iconst 1, 1)) ?_
      refine g_iadd hF (by decide +kernel : decode cX2_mark 30 = .ok (.iadd, 1)) ?_
      refine g_tld hF (by decide +kernel : decode cX2_mark 31 = .ok (.iaload, 1)) ht (by omega) ?_
      refine g_bipush hF (by decide +kernel : decode cX2_mark 32 = .ok (.bipush (-2), 2)) (by decide) ?_
      refine g_icmp_ne hF (tgt := 41) (by decide +kernel : decode cX2_mark 34 = .ok (.if_icmp .ne 7, 3)) (by decide) (by omega) (by omega) (fun c34 => ?_) (fun c34 => ?_)
      · skip
        refine g_iconst hF (by decide +kernel : decode cX2_mark 41 = .ok (.iconst 1, 1)) ?_
        refine g_isub hF (by decide +kernel : decode cX2_mark 42 = .ok (.isub, 1)) ?_
        refine g_iadd hF (by decide +kernel : decode cX2_mark 43 = .ok (.iadd, 1)) ?_
        refine g_tcntP hF lkPX2_15 (by decide +kernel : decode cX2_mark 44 = .ok (.putfield 15, 3)) ht ?_
        refine g_aload_n hF (by decide +kernel : decode cX2_mark 47 = .ok (.aload_n 0, 1)) rfl ?_
        refine g_told hF lkX2_9 (by decide +kernel : decode cX2_mark 48 = .ok (.getfield 9, 3)) ht ?_
        refine g_iload_n hF (by decide +kernel : decode cX2_mark 51 = .ok (.iload_n 1, 1)) rfl ?_
        refine g_iconst hF (by decide +kernel : decode cX2_mark 52 = .ok (.iconst 1, 1)) ?_
        refine g_iadd hF (by decide +kernel : decode cX2_mark 53 = .ok (.iadd, 1)) ?_
        refine g_iload_n hF (by decide +kernel : decode cX2_mark 54 = .ok (.iload_n 2, 1)) rfl ?_
        refine g_tst hF (by decide +kernel : decode cX2_mark 55 = .ok (.iastore, 1)) ht (by omega) ?_
        refine g_return hF hQ (by decide +kernel : decode cX2_mark 56 = .ok (.return_, 1)) ?_
        exact ⟨rfl, mark_mem ht hm.2 q4 rfl (by unfold pres; (repeat' split) <;> omega)⟩
      · skip
        refine g_iconst hF (by decide +kernel : decode cX2_mark 37 = .ok (.iconst 0, 1)) ?_
        refine g_goto hF (tgt := 42) (by decide +kernel : decode cX2_mark 38 = .ok (.goto 4, 3)) (by decide) ?_
        refine g_isub hF (by decide +kernel : decode cX2_mark 42 = .ok (.isub, 1)) ?_
        refine g_iadd hF (by decide +kernel : decode cX2_mark 43 = .ok (.iadd, 1)) ?_
        refine g_tcntP hF lkPX2_15 (by decide +kernel : decode cX2_mark 44 = .ok (.putfield 15, 3)) ht ?_
        refine g_aload_n hF (by decide +kernel : decode cX2_mark 47 = .ok (.aload_n 0, 1)) rfl ?_
        refine g_told hF lkX2_9 (by decide +kernel : decode cX2_mark 48 = .ok (.getfield 9, 3)) ht ?_
        refine g_iload_n hF (by decide +kernel : decode cX2_mark 51 = .ok (.iload_n 1, 1)) rfl ?_
        refine g_iconst hF (by decide +kernel : decode cX2_mark 52 = .ok (.iconst 1, 1)) ?_
        refine g_iadd hF (by decide +kernel : decode cX2_mark 53 = .ok (.iadd, 1)) ?_
        refine g_iload_n hF (by decide +kernel : decode cX2_mark 54 = .ok (.iload_n 2, 1)) rfl ?_
        refine g_tst hF (by decide +kernel : decode cX2_mark 55 = .ok (.iastore, 1)) ht (by omega) ?_
        refine g_return hF hQ (by decide +kernel : decode cX2_mark 56 = .ok (.return_, 1)) ?_
        exact ⟨rfl, mark_mem ht hm.2 q4 rfl (by unfold pres; (repeat' split) <;> omega)⟩
  · skip
    have q4 := i01_f c4
    refine g_return hF hQ (by decide +kernel : decode cX2_mark 7 = .ok (.return_, 1)) ?_
    exact ⟨rfl, by unfold fmark; rw [if_neg q4, tset_self hm.2]⟩
set_option maxHeartbeats 4000000 in
set_option maxRecDepth 100000 in
theorem c_X2_wipe (X : jX) (hX : jxok X) (t : Nat) (ht : t < 19) (m : jM) : Con X yX2_wipe cX2_wipe 1 none 2 [vR 1 t] m (fun o m' => o = none ∧ m' = tset m t (fun _ => -2)) := by
  refine Con.of hX (by decide) (Nat.le_of_ble_eq_true rfl) (fun F hF hQ => ?_)
  refine g_aload_n hF (by decide +kernel : decode cX2_wipe 0 = .ok (.aload_n 0, 1)) rfl ?_
  refine g_told hF lkX2_9 (by decide +kernel : decode cX2_wipe 1 = .ok (.getfield 9, 3)) ht ?_
  refine g_bipush hF (by decide +kernel : decode cX2_wipe 4 = .ok (.bipush (-2), 2)) (by decide) ?_
  refine g_callS hF lkX2_19 (c_fillT X hX _ ht _ _) (by decide +kernel : decode cX2_wipe 6 = .ok (.invokestatic 19, 3)) (by decide) rfl rfl (Nat.le_of_ble_eq_true rfl) (fun v6 m6 h6 => ?_)
  obtain ⟨rfl, e6⟩ := h6
  obtain rfl := e6.symm
  refine g_aload_n hF (by decide +kernel : decode cX2_wipe 9 = .ok (.aload_n 0, 1)) rfl ?_
  refine g_iconst hF (by decide +kernel : decode cX2_wipe 10 = .ok (.iconst 0, 1)) ?_
  refine g_tcntP hF lkPX2_15 (by decide +kernel : decode cX2_wipe 11 = .ok (.putfield 15, 3)) ht ?_
  refine g_return hF hQ (by decide +kernel : decode cX2_wipe 14 = .ok (.return_, 1)) ?_
  exact ⟨rfl, row_mem cnt_none.symm⟩
set_option maxHeartbeats 4000000 in
set_option maxRecDepth 100000 in
theorem c_X2_become (X : jX) (hX : jxok X) (t : Nat) (ht : t < 19) (u : Nat) (hu : u < 19) (m : jM) (hm : m (19 + u) 0 = cnt (m u)) : Con X yX2_become cX2_become 2 none 2 [vR 1 t, vR 1 u] m (fun o m' => o = none ∧ m' = tset m t (m u)) := by
  refine Con.of hX (by decide) (Nat.le_of_ble_eq_true rfl) (fun F hF hQ => ?_)
  refine g_aload_n hF (by decide +kernel : decode cX2_become 0 = .ok (.aload_n 1, 1)) rfl ?_
  refine g_told hF lkX2_9 (by decide +kernel : decode cX2_become 1 = .ok (.getfield 9, 3)) hu ?_
  refine g_iconst hF (by decide +kernel : decode cX2_become 4 = .ok (.iconst 0, 1)) ?_
  refine g_aload_n hF (by decide +kernel : decode cX2_become 5 = .ok (.aload_n 0, 1)) rfl ?_
  refine g_told hF lkX2_9 (by decide +kernel : decode cX2_become 6 = .ok (.getfield 9, 3)) ht ?_
  refine g_iconst hF (by decide +kernel : decode cX2_become 9 = .ok (.iconst 0, 1)) ?_
  refine g_sipush hF (by decide +kernel : decode cX2_become 10 = .ok (.sipush 257, 3)) (by decide) ?_
  refine g_copy hF lkX2_33 (by decide +kernel : decode cX2_become 13 = .ok (.invokestatic 33, 3)) (by decide) hu ht (Nat.le_of_ble_eq_true rfl) ?_
  refine g_aload_n hF (by decide +kernel : decode cX2_become 16 = .ok (.aload_n 0, 1)) rfl ?_
  refine g_aload_n hF (by decide +kernel : decode cX2_become 17 = .ok (.aload_n 1, 1)) rfl ?_
  refine g_tcnt hF lkX2_15 (by decide +kernel : decode cX2_become 18 = .ok (.getfield 15, 3)) hu ?_
  refine g_tcntP hF lkPX2_15 (by decide +kernel : decode cX2_become 21 = .ok (.putfield 15, 3)) ht ?_
  refine g_return hF hQ (by decide +kernel : decode cX2_become 24 = .ok (.return_, 1)) ?_
  exact ⟨rfl, row_mem (by rw [mrow_ne (by omega)]; exact hm)⟩
set_option maxHeartbeats 4000000 in
set_option maxRecDepth 100000 in
theorem c_X2_timesOf (X : jX) (hX : jxok X) (t : Nat) (ht : t < 19) (v : Int) (hv : jr v) (m : jM) (hm : rowok (m t)) : Con X yX2_timesOf cX2_timesOf 4 (some .int) 3 [vR 1 t, vI v] m (fun o m' => o = some (vI (sumN (fun z => if m t z = v then 1 else 0) 257)) ∧ m' = m) := by
  refine Con.of hX (by decide) (Nat.le_of_ble_eq_true rfl) (fun F hF hQ => ?_)
  refine g_iconst hF (by decide +kernel : decode cX2_timesOf 0 = .ok (.iconst 0, 1)) ?_
  refine g_istore_n hF (by decide +kernel : decode cX2_timesOf 1 = .ok (.istore_n 2, 1)) (by decide) ?_
  refine g_iconst hF (by decide +kernel : decode cX2_timesOf 2 = .ok (.iconst (-1), 1)) ?_
  refine g_istore_n hF (by decide +kernel : decode cX2_timesOf 3 = .ok (.istore_n 3, 1)) (by decide) ?_
  have loop : ∀ (n i : Nat) (a k : Int), i ≤ 257 → 258 ≤ i + n → k = i - 1 → a = sumN (fun z => if m t z = v then 1 else 0) i → jG F X m 4 [(0, vR 1 t), (1, vI v), (2, vI a), (3, vI k)] [] := by
    intro n
    induction n with
    | zero => intro i a k h1 h2; exact absurd h2 (by omega)
    | succ n ih =>
      intro i a k h1 h2 hk ha
      refine g_iload_n hF (by decide +kernel : decode cX2_timesOf 4 = .ok (.iload_n 3, 1)) rfl ?_
      refine g_sipush hF (by decide +kernel : decode cX2_timesOf 5 = .ok (.sipush 255, 3)) (by decide) ?_
      refine g_icmp_gt hF (tgt := 34) (by decide +kernel : decode cX2_timesOf 8 = .ok (.if_icmp .gt 26, 3)) (by decide) (by omega) (by omega) (fun c8 => ?_) (fun c8 => ?_)
      · skip
        refine g_iload_n hF (by decide +kernel : decode cX2_timesOf 34 = .ok (.iload_n 2, 1)) rfl ?_
        refine g_ireturn hF hQ (by decide +kernel : decode cX2_timesOf 35 = .ok (.ireturn, 1)) ?_
        exact ⟨by rw [ha, show i = 257 by omega], rfl⟩
      · skip
        have q8 := tat_i (f := m t) hk (by omega) (by omega)
        have q9 := hm i (by omega) (by omega)
        refine g_iload_n hF (by decide +kernel : decode cX2_timesOf 11 = .ok (.iload_n 2, 1)) rfl ?_
        refine g_aload_n hF (by decide +kernel : decode cX2_timesOf 12 = .ok (.aload_n 0, 1)) rfl ?_
        refine g_iload_n hF (by decide +kernel : decode cX2_timesOf 13 = .ok (.iload_n 3, 1)) rfl ?_
        refine g_callV hF lkX2_29 (c_X2_at X hX _ ht _ (by omega) _) (by decide +kernel : decode cX2_timesOf 14 = .ok (.invokevirtual 29, 3)) (by decide) rfl rfl rfl rfl ht (Nat.le_of_ble_eq_true rfl) (fun v14 m14 h14 => ?_)
        obtain ⟨rfl, e14⟩ := h14
        obtain rfl := e14.symm
        refine g_iload_n hF (by decide +kernel : decode cX2_timesOf 17 = .ok (.iload_n 1, 1)) rfl ?_
        refine g_icmp_ne hF (tgt := 25) (by decide +kernel : decode cX2_timesOf 18 = .ok (.if_icmp .ne 7, 3)) (by decide) (by omega) (by omega) (fun c18 => ?_) (fun c18 => ?_)
        · skip
          refine g_iconst hF (by decide +kernel : decode cX2_timesOf 25 = .ok (.iconst 0, 1)) ?_
          refine g_iadd hF (by decide +kernel : decode cX2_timesOf 26 = .ok (.iadd, 1)) ?_
          refine g_istore_n hF (by decide +kernel : decode cX2_timesOf 27 = .ok (.istore_n 2, 1)) (by decide) ?_
          refine g_iinc hF (by decide +kernel : decode cX2_timesOf 28 = .ok (.iinc 3 1, 3)) rfl (by decide) ?_
          refine g_goto hF (tgt := 4) (by decide +kernel : decode cX2_timesOf 31 = .ok (.goto (-27), 3)) (by decide) ?_
          exact ih (i + 1) _ _ (by omega) (by omega) (by omega) (by rw [ha, sumN_s]; first | rw [if_pos (by omega)] | rw [if_neg (by omega)])
        · skip
          refine g_iconst hF (by decide +kernel : decode cX2_timesOf 21 = .ok (.iconst 1, 1)) ?_
          refine g_goto hF (tgt := 26) (by decide +kernel : decode cX2_timesOf 22 = .ok (.goto 4, 3)) (by decide) ?_
          refine g_iadd hF (by decide +kernel : decode cX2_timesOf 26 = .ok (.iadd, 1)) ?_
          refine g_istore_n hF (by decide +kernel : decode cX2_timesOf 27 = .ok (.istore_n 2, 1)) (by decide) ?_
          refine g_iinc hF (by decide +kernel : decode cX2_timesOf 28 = .ok (.iinc 3 1, 3)) rfl (by decide) ?_
          refine g_goto hF (tgt := 4) (by decide +kernel : decode cX2_timesOf 31 = .ok (.goto (-27), 3)) (by decide) ?_
          exact ih (i + 1) _ _ (by omega) (by omega) (by omega) (by rw [ha, sumN_s]; first | rw [if_pos (by omega)] | rw [if_neg (by omega)])
  exact loop 258 0 0 (-1) (by omega) (by omega) (by omega) (sumN_0 _).symm
set_option maxHeartbeats 4000000 in
set_option maxRecDepth 100000 in
theorem c_X4_wrapped (X : jX) (hX : jxok X) (a : Int) (ha : jr a) (m : jM) : Con X yX4_wrapped cX4_wrapped 1 (some .int) 1 [vI a] m (fun o m' => o = some (vI (wr a)) ∧ m' = m) := by
  refine Con.of hX (by decide) (Nat.le_of_ble_eq_true rfl) (fun F hF hQ => ?_)
  refine g_iload_n hF (by decide +kernel : decode cX4_wrapped 0 = .ok (.iload_n 0, 1)) rfl ?_
  refine g_sipush hF (by decide +kernel : decode cX4_wrapped 1 = .ok (.sipush 255, 3)) (by decide) ?_
  refine g_icmp_le hF (tgt := 15) (by decide +kernel : decode cX4_wrapped 4 = .ok (.if_icmp .le 11, 3)) (by decide) (by omega) (by omega) (fun c4 => ?_) (fun c4 => ?_)
  · skip
    refine g_iload_n hF (by decide +kernel : decode cX4_wrapped 15 = .ok (.iload_n 0, 1)) rfl ?_
    refine g_ireturn hF hQ (by decide +kernel : decode cX4_wrapped 16 = .ok (.ireturn, 1)) ?_
    exact ⟨by unfold wr; first | rw [if_pos (by omega)] | rw [if_neg (by omega)], rfl⟩
  · skip
    refine g_iload_n hF (by decide +kernel : decode cX4_wrapped 7 = .ok (.iload_n 0, 1)) rfl ?_
    refine g_sipush hF (by decide +kernel : decode cX4_wrapped 8 = .ok (.sipush 256, 3)) (by decide) ?_
    refine g_isub hF (by decide +kernel : decode cX4_wrapped 11 = .ok (.isub, 1)) ?_
    refine g_goto hF (tgt := 16) (by decide +kernel : decode cX4_wrapped 12 = .ok (.goto 4, 3)) (by decide) ?_
    refine g_ireturn hF hQ (by decide +kernel : decode cX4_wrapped 16 = .ok (.ireturn, 1)) ?_
    exact ⟨by unfold wr; first | rw [if_pos (by omega)] | rw [if_neg (by omega)], rfl⟩
set_option maxHeartbeats 4000000 in
set_option maxRecDepth 100000 in
theorem c_X2_keyOfPlace (X : jX) (hX : jxok X) (t : Nat) (ht : t < 19) (p : Int) (m : jM) (hm : rowok (m t)) (hp : 0 ≤ p ∧ p < cnt (m t)) : Con X yX2_keyOfPlace cX2_keyOfPlace 4 (some .int) 4 [vR 1 t, vI p] m (fun o m' => o = some (vI (nthK (m t) p)) ∧ m' = m) := by
  refine Con.of hX (by decide) (Nat.le_of_ble_eq_true rfl) (fun F hF hQ => ?_)
  have hp2 := cnt_b (m t)
  refine g_iload_n hF (by decide +kernel : decode cX2_keyOfPlace 0 = .ok (.iload_n 1, 1)) rfl ?_
  refine g_istore_n hF (by decide +kernel : decode cX2_keyOfPlace 1 = .ok (.istore_n 2, 1)) (by decide) ?_
  refine g_iconst hF (by decide +kernel : decode cX2_keyOfPlace 2 = .ok (.iconst (-1), 1)) ?_
  refine g_istore_n hF (by decide +kernel : decode cX2_keyOfPlace 3 = .ok (.istore_n 3, 1)) (by decide) ?_
  have loop : ∀ (n i : Nat) (a k : Int), i ≤ 257 → 258 ≤ i + n → k = i - 1 → a = p - sumN (fun z => pres (m t z)) i → 0 ≤ a → jG F X m 4 [(0, vR 1 t), (1, vI p), (2, vI a), (3, vI k)] [] := by
    intro n
    induction n with
    | zero => intro i a k h1 h2; exact absurd h2 (by omega)
    | succ n ih =>
      intro i a k h1 h2 hk ha ha0
      have hb := sumN_bound (f := fun z => pres (m t z)) (a := 0) (b := 1) i (fun z _ _ => pres_b _)
      refine g_iload_n hF (by decide +kernel : decode cX2_keyOfPlace 4 = .ok (.iload_n 3, 1)) rfl ?_
      refine g_sipush hF (by decide +kernel : decode cX2_keyOfPlace 5 = .ok (.sipush 255, 3)) (by decide) ?_
      refine g_icmp_gt hF (tgt := 34) (by decide +kernel : decode cX2_keyOfPlace 8 = .ok (.if_icmp .gt 26, 3)) (by decide) (by omega) (by omega) (fun c8 => ?_) (fun c8 => ?_)
      · skip
        exfalso
        obtain rfl : i = 257 := by omega
        have h9 : cnt (m t) = sumN (fun z => pres (m t z)) 257 := rfl
        omega
      · skip
        have q8 := tat_i (f := m t) hk (by omega) (by omega)
        refine g_aload_n hF (by decide +kernel : decode cX2_keyOfPlace 11 = .ok (.aload_n 0, 1)) rfl ?_
        refine g_iload_n hF (by decide +kernel : decode cX2_keyOfPlace 12 = .ok (.iload_n 3, 1)) rfl ?_
        refine g_callV hF lkX2_39 (c_X2_isKey X hX _ ht _ (by omega) _ (by assumption)) (by decide +kernel : decode cX2_keyOfPlace 13 = .ok (.invokevirtual 39, 3)) (by decide) rfl rfl rfl rfl ht (Nat.le_of_ble_eq_true rfl) (fun v13 m13 h13 => ?_)
        obtain ⟨rfl, e13⟩ := h13
        obtain rfl := e13.symm
        refine g_if_eq hF (tgt := 28) (by decide +kernel : decode cX2_keyOfPlace 16 = .ok (.ifCond .eq 12, 3)) (by decide) (by split <;> omega) (fun c16 => ?_) (fun c16 => ?_)
        · skip
          have q16 : m t i = -2 := by rw [← q8]; exact Classical.byContradiction (fun q => by rw [if_neg q] at c16; omega)
          refine g_iinc hF (by decide +kernel : decode cX2_keyOfPlace 28 = .ok (.iinc 3 1, 3)) rfl (by decide) ?_
          refine g_goto hF (tgt := 4) (by decide +kernel : decode cX2_keyOfPlace 31 = .ok (.goto (-27), 3)) (by decide) ?_
          exact ih (i + 1) _ _ (by omega) (by omega) (by omega) (by rw [ha, sumN_s, show pres (m t i) = 0 from if_pos q16]; omega) ha0
        · skip
          have q16 : ¬ m t i = -2 := by rw [← q8]; exact fun q => c16 (if_pos q)
          refine g_iload_n hF (by decide +kernel : decode cX2_keyOfPlace 19 = .ok (.iload_n 2, 1)) rfl ?_
          refine g_if_ne hF (tgt := 25) (by decide +kernel : decode cX2_keyOfPlace 20 = .ok (.ifCond .ne 5, 3)) (by decide) (by omega) (fun c20 => ?_) (fun c20 => ?_)
          · skip
            refine g_iinc hF (by decide +kernel : decode cX2_keyOfPlace 25 = .ok (.iinc 2 (-1), 3)) rfl (by decide) ?_
            refine g_iinc hF (by decide +kernel : decode cX2_keyOfPlace 28 = .ok (.iinc 3 1, 3)) rfl (by decide) ?_
            refine g_goto hF (tgt := 4) (by decide +kernel : decode cX2_keyOfPlace 31 = .ok (.goto (-27), 3)) (by decide) ?_
            exact ih (i + 1) _ _ (by omega) (by omega) (by omega) (by rw [ha, sumN_s, show pres (m t i) = 1 from if_neg q16]; omega) (by omega)
          · skip
            refine g_iload_n hF (by decide +kernel : decode cX2_keyOfPlace 23 = .ok (.iload_n 3, 1)) rfl ?_
            refine g_ireturn hF hQ (by decide +kernel : decode cX2_keyOfPlace 24 = .ok (.ireturn, 1)) ?_
            exact ⟨by rw [nthK_eq (i := i) (by omega) q16 (by omega), hk], rfl⟩
  exact loop 258 0 p (-1) (by omega) (by omega) (by omega) (by rw [sumN_0]; omega) hp.1
set_option maxHeartbeats 4000000 in
set_option maxRecDepth 100000 in
theorem c_X2_matches (X : jX) (hX : jxok X) (t : Nat) (ht : t < 19) (u : Nat) (hu : u < 19) (m : jM) (hm : rowok (m t)) (hmu : rowok (m u)) : Con X yX2_matches cX2_matches 3 (some .boolean) 4 [vR 1 t, vR 1 u] m (fun o m' => o = some (vI (bI (eqR (m t) (m u)))) ∧ m' = m) := by
  refine Con.of hX (by decide) (Nat.le_of_ble_eq_true rfl) (fun F hF hQ => ?_)
  refine g_iconst hF (by decide +kernel : decode cX2_matches 0 = .ok (.iconst (-1), 1)) ?_
  refine g_istore_n hF (by decide +kernel : decode cX2_matches 1 = .ok (.istore_n 2, 1)) (by decide) ?_
  have loop : ∀ (n i : Nat) (k : Int), i ≤ 257 → 258 ≤ i + n → k = i - 1 → (∀ z : Int, 0 ≤ z → z < i → m t z = m u z) → jG F X m 2 [(0, vR 1 t), (1, vR 1 u), (2, vI k)] [] := by
    intro n
    induction n with
    | zero => intro i k h1 h2; exact absurd h2 (by omega)
    | succ n ih =>
      intro i k h1 h2 hk hi
      refine g_iload_n hF (by decide +kernel : decode cX2_matches 2 = .ok (.iload_n 2, 1)) rfl ?_
      refine g_sipush hF (by decide +kernel : decode cX2_matches 3 = .ok (.sipush 255, 3)) (by decide) ?_
      refine g_icmp_gt hF (tgt := 30) (by decide +kernel : decode cX2_matches 6 = .ok (.if_icmp .gt 24, 3)) (by decide) (by omega) (by omega) (fun c6 => ?_) (fun c6 => ?_)
      · skip
        refine g_iconst hF (by decide +kernel : decode cX2_matches 30 = .ok (.iconst 1, 1)) ?_
        refine g_zreturn hF hQ (by decide +kernel : decode cX2_matches 31 = .ok (.ireturn, 1)) (by first | exact Or.inl rfl | exact Or.inr rfl | omega) ?_
        exact ⟨by rw [bI_t (show eqR (m t) (m u) from fun z h8 h9 => hi z h8 (by omega))], rfl⟩
      · skip
        have q11 := tat_i (f := m t) hk (by omega) (by omega)
        have q16 := tat_i (f := m u) hk (by omega) (by omega)
        have b11 := tat_b hm k
        have b16 := tat_b hmu k
        refine g_aload_n hF (by decide +kernel : decode cX2_matches 9 = .ok (.aload_n 0, 1)) rfl ?_
        refine g_iload_n hF (by decide +kernel : decode cX2_matches 10 = .ok (.iload_n 2, 1)) rfl ?_
        refine g_callV hF lkX2_29 (c_X2_at X hX _ ht _ (by omega) _) (by decide +kernel : decode cX2_matches 11 = .ok (.invokevirtual 29, 3)) (by decide) rfl rfl rfl rfl ht (Nat.le_of_ble_eq_true rfl) (fun v11 m11 h11 => ?_)
        obtain ⟨rfl, e11⟩ := h11
        obtain rfl := e11.symm
        refine g_aload_n hF (by decide +kernel : decode cX2_matches 14 = .ok (.aload_n 1, 1)) rfl ?_
        refine g_iload_n hF (by decide +kernel : decode cX2_matches 15 = .ok (.iload_n 2, 1)) rfl ?_
        refine g_callV hF lkX2_29 (c_X2_at X hX _ hu _ (by omega) _) (by decide +kernel : decode cX2_matches 16 = .ok (.invokevirtual 29, 3)) (by decide) rfl rfl rfl rfl hu (Nat.le_of_ble_eq_true rfl) (fun v16 m16 h16 => ?_)
        obtain ⟨rfl, e16⟩ := h16
        obtain rfl := e16.symm
        refine g_icmp_eq hF (tgt := 24) (by decide +kernel : decode cX2_matches 19 = .ok (.if_icmp .eq 5, 3)) (by decide) (by first | omega | (split <;> omega)) (by first | omega | (split <;> omega)) (fun c19 => ?_) (fun c19 => ?_)
        · skip
          refine g_iinc hF (by decide +kernel : decode cX2_matches 24 = .ok (.iinc 2 1, 3)) rfl (by decide) ?_
          refine g_goto hF (tgt := 2) (by decide +kernel : decode cX2_matches 27 = .ok (.goto (-25), 3)) (by decide) ?_
          exact ih (i + 1) _ (by omega) (by omega) (by omega) (fun z h8 h9 => by
            by_cases e : z = i
            · rw [e]; rw [q11, q16] at c19; exact c19
            · exact hi z h8 (by omega))
        · skip
          refine g_iconst hF (by decide +kernel : decode cX2_matches 22 = .ok (.iconst 0, 1)) ?_
          refine g_zreturn hF hQ (by decide +kernel : decode cX2_matches 23 = .ok (.ireturn, 1)) (by first | exact Or.inl rfl | exact Or.inr rfl | omega) ?_
          exact ⟨by rw [bI_f (by rw [q11, q16] at c19; exact fun q => c19 (q i (by omega) (by omega)))], rfl⟩
  exact loop 258 0 (-1) (by omega) (by omega) (by omega) (fun z h8 h9 => absurd h9 (by omega))
set_option maxHeartbeats 4000000 in
set_option maxRecDepth 100000 in
theorem c_X2_matchesKeys (X : jX) (hX : jxok X) (t : Nat) (ht : t < 19) (u : Nat) (hu : u < 19) (m : jM) (hm : rowok (m t)) (hmu : rowok (m u)) : Con X yX2_matchesKeys cX2_matchesKeys 3 (some .boolean) 4 [vR 1 t, vR 1 u] m (fun o m' => o = some (vI (bI (eqK (m t) (m u)))) ∧ m' = m) := by
  refine Con.of hX (by decide) (Nat.le_of_ble_eq_true rfl) (fun F hF hQ => ?_)
  refine g_iconst hF (by decide +kernel : decode cX2_matchesKeys 0 = .ok (.iconst (-1), 1)) ?_
  refine g_istore_n hF (by decide +kernel : decode cX2_matchesKeys 1 = .ok (.istore_n 2, 1)) (by decide) ?_
  have loop : ∀ (n i : Nat) (k : Int), i ≤ 257 → 258 ≤ i + n → k = i - 1 → (∀ z : Int, 0 ≤ z → z < i → (m t z = -2 ↔ m u z = -2)) → jG F X m 2 [(0, vR 1 t), (1, vR 1 u), (2, vI k)] [] := by
    intro n
    induction n with
    | zero => intro i k h1 h2; exact absurd h2 (by omega)
    | succ n ih =>
      intro i k h1 h2 hk hi
      refine g_iload_n hF (by decide +kernel : decode cX2_matchesKeys 2 = .ok (.iload_n 2, 1)) rfl ?_
      refine g_sipush hF (by decide +kernel : decode cX2_matchesKeys 3 = .ok (.sipush 255, 3)) (by decide) ?_
      refine g_icmp_gt hF (tgt := 30) (by decide +kernel : decode cX2_matchesKeys 6 = .ok (.if_icmp .gt 24, 3)) (by decide) (by omega) (by omega) (fun c6 => ?_) (fun c6 => ?_)
      · skip
        refine g_iconst hF (by decide +kernel : decode cX2_matchesKeys 30 = .ok (.iconst 1, 1)) ?_
        refine g_zreturn hF hQ (by decide +kernel : decode cX2_matchesKeys 31 = .ok (.ireturn, 1)) (by first | exact Or.inl rfl | exact Or.inr rfl | omega) ?_
        exact ⟨by rw [bI_t (show eqK (m t) (m u) from fun z h8 h9 => hi z h8 (by omega))], rfl⟩
      · skip
        have q11 := tat_i (f := m t) hk (by omega) (by omega)
        have q16 := tat_i (f := m u) hk (by omega) (by omega)
        have b11 := tat_b hm k
        have b16 := tat_b hmu k
        refine g_aload_n hF (by decide +kernel : decode cX2_matchesKeys 9 = .ok (.aload_n 0, 1)) rfl ?_
        refine g_iload_n hF (by decide +kernel : decode cX2_matchesKeys 10 = .ok (.iload_n 2, 1)) rfl ?_
        refine g_callV hF lkX2_39 (c_X2_isKey X hX _ ht _ (by omega) _ (by assumption)) (by decide +kernel : decode cX2_matchesKeys 11 = .ok (.invokevirtual 39, 3)) (by decide) rfl rfl rfl rfl ht (Nat.le_of_ble_eq_true rfl) (fun v11 m11 h11 => ?_)
        obtain ⟨rfl, e11⟩ := h11
        obtain rfl := e11.symm
        refine g_aload_n hF (by decide +kernel : decode cX2_matchesKeys 14 = .ok (.aload_n 1, 1)) rfl ?_
        refine g_iload_n hF (by decide +kernel : decode cX2_matchesKeys 15 = .ok (.iload_n 2, 1)) rfl ?_
        refine g_callV hF lkX2_39 (c_X2_isKey X hX _ hu _ (by omega) _ (by assumption)) (by decide +kernel : decode cX2_matchesKeys 16 = .ok (.invokevirtual 39, 3)) (by decide) rfl rfl rfl rfl hu (Nat.le_of_ble_eq_true rfl) (fun v16 m16 h16 => ?_)
        obtain ⟨rfl, e16⟩ := h16
        obtain rfl := e16.symm
        refine g_icmp_eq hF (tgt := 24) (by decide +kernel : decode cX2_matchesKeys 19 = .ok (.if_icmp .eq 5, 3)) (by decide) (by first | omega | (split <;> omega)) (by first | omega | (split <;> omega)) (fun c19 => ?_) (fun c19 => ?_)
        · skip
          refine g_iinc hF (by decide +kernel : decode cX2_matchesKeys 24 = .ok (.iinc 2 1, 3)) rfl (by decide) ?_
          refine g_goto hF (tgt := 2) (by decide +kernel : decode cX2_matchesKeys 27 = .ok (.goto (-25), 3)) (by decide) ?_
          exact ih (i + 1) _ (by omega) (by omega) (by omega) (fun z h8 h9 => by
            by_cases e : z = i
            · rw [e]; rw [q11, q16] at c19; split at c19 <;> split at c19 <;> omega
            · exact hi z h8 (by omega))
        · skip
          refine g_iconst hF (by decide +kernel : decode cX2_matchesKeys 22 = .ok (.iconst 0, 1)) ?_
          refine g_zreturn hF hQ (by decide +kernel : decode cX2_matchesKeys 23 = .ok (.ireturn, 1)) (by first | exact Or.inl rfl | exact Or.inr rfl | omega) ?_
          exact ⟨by rw [bI_f (by rw [q11, q16] at c19; exact fun q => c19 (by have := q i (by omega) (by omega); split <;> split <;> first | rfl | omega))], rfl⟩
  exact loop 258 0 (-1) (by omega) (by omega) (by omega) (fun z h8 h9 => absurd h9 (by omega))
set_option maxHeartbeats 4000000 in
set_option maxRecDepth 100000 in
theorem c_X2_sumOfPairs (X : jX) (hX : jxok X) (t : Nat) (ht : t < 19) (m : jM) (hm : rowok (m t)) : Con X yX2_sumOfPairs cX2_sumOfPairs 3 (some .int) 4 [vR 1 t] m (fun o m' => o = some (vI (sumN (fun z => if m t z = -2 then 0 else jxor (mx0 (z - 1)) (mx0 (m t z))) 257)) ∧ m' = m) := by
  refine Con.of hX (by decide) (Nat.le_of_ble_eq_true rfl) (fun F hF hQ => ?_)
  refine g_iconst hF (by decide +kernel : decode cX2_sumOfPairs 0 = .ok (.iconst 0, 1)) ?_
  refine g_istore_n hF (by decide +kernel : decode cX2_sumOfPairs 1 = .ok (.istore_n 1, 1)) (by decide) ?_
  refine g_iconst hF (by decide +kernel : decode cX2_sumOfPairs 2 = .ok (.iconst (-1), 1)) ?_
  refine g_istore_n hF (by decide +kernel : decode cX2_sumOfPairs 3 = .ok (.istore_n 2, 1)) (by decide) ?_
  have loop : ∀ (n i : Nat) (a k : Int), i ≤ 257 → 258 ≤ i + n → k = i - 1 → a = sumN (fun z => if m t z = -2 then 0 else jxor (mx0 (z - 1)) (mx0 (m t z))) i → jG F X m 4 [(0, vR 1 t), (1, vI a), (2, vI k)] [] := by
    intro n
    induction n with
    | zero => intro i a k h1 h2; exact absurd h2 (by omega)
    | succ n ih =>
      intro i a k h1 h2 hk ha
      refine g_iload_n hF (by decide +kernel : decode cX2_sumOfPairs 4 = .ok (.iload_n 2, 1)) rfl ?_
      refine g_sipush hF (by decide +kernel : decode cX2_sumOfPairs 5 = .ok (.sipush 255, 3)) (by decide) ?_
      refine g_icmp_gt hF (tgt := 43) (by decide +kernel : decode cX2_sumOfPairs 8 = .ok (.if_icmp .gt 35, 3)) (by decide) (by omega) (by omega) (fun c8 => ?_) (fun c8 => ?_)
      · skip
        refine g_iload_n hF (by decide +kernel : decode cX2_sumOfPairs 43 = .ok (.iload_n 1, 1)) rfl ?_
        refine g_ireturn hF hQ (by decide +kernel : decode cX2_sumOfPairs 44 = .ok (.ireturn, 1)) ?_
        exact ⟨by rw [ha, show i = 257 by omega], rfl⟩
      · skip
        have q8 := tat_i (f := m t) hk (by omega) (by omega)
        have b8 := tat_b hm k
        refine g_aload_n hF (by decide +kernel : decode cX2_sumOfPairs 11 = .ok (.aload_n 0, 1)) rfl ?_
        refine g_iload_n hF (by decide +kernel : decode cX2_sumOfPairs 12 = .ok (.iload_n 2, 1)) rfl ?_
        refine g_callV hF lkX2_39 (c_X2_isKey X hX _ ht _ (by omega) _ (by assumption)) (by decide +kernel : decode cX2_sumOfPairs 13 = .ok (.invokevirtual 39, 3)) (by decide) rfl rfl rfl rfl ht (Nat.le_of_ble_eq_true rfl) (fun v13 m13 h13 => ?_)
        obtain ⟨rfl, e13⟩ := h13
        obtain rfl := e13.symm
        refine g_if_eq hF (tgt := 37) (by decide +kernel : decode cX2_sumOfPairs 16 = .ok (.ifCond .eq 21, 3)) (by decide) (by split <;> omega) (fun c16 => ?_) (fun c16 => ?_)
        · skip
          have q16 : m t i = -2 := by rw [← q8]; exact Classical.byContradiction (fun q => by rw [if_neg q] at c16; omega)
          refine g_iinc hF (by decide +kernel : decode cX2_sumOfPairs 37 = .ok (.iinc 2 1, 3)) rfl (by decide) ?_
          refine g_goto hF (tgt := 4) (by decide +kernel : decode cX2_sumOfPairs 40 = .ok (.goto (-36), 3)) (by decide) ?_
          exact ih (i + 1) _ _ (by omega) (by omega) (by omega) (by rw [ha, sumN_s, if_pos q16]; omega)
        · skip
          have q16 : ¬ m t i = -2 := by rw [← q8]; exact fun q => c16 (if_pos q)
          refine g_iload_n hF (by decide +kernel : decode cX2_sumOfPairs 19 = .ok (.iload_n 1, 1)) rfl ?_
          refine g_iload_n hF (by decide +kernel : decode cX2_sumOfPairs 20 = .ok (.iload_n 2, 1)) rfl ?_
          refine g_iconst hF (by decide +kernel : decode cX2_sumOfPairs 21 = .ok (.iconst 0, 1)) ?_
          refine g_max hF lkX2_42 (by decide +kernel : decode cX2_sumOfPairs 22 = .ok (.invokestatic 42, 3)) (by decide) (by omega) (by omega) (Nat.le_of_ble_eq_true rfl) ?_
          refine g_aload_n hF (by decide +kernel : decode cX2_sumOfPairs 25 = .ok (.aload_n 0, 1)) rfl ?_
          refine g_iload_n hF (by decide +kernel : decode cX2_sumOfPairs 26 = .ok (.iload_n 2, 1)) rfl ?_
          refine g_callV hF lkX2_29 (c_X2_at X hX _ ht _ (by omega) _) (by decide +kernel : decode cX2_sumOfPairs 27 = .ok (.invokevirtual 29, 3)) (by decide) rfl rfl rfl rfl ht (Nat.le_of_ble_eq_true rfl) (fun v27 m27 h27 => ?_)
          obtain ⟨rfl, e27⟩ := h27
          obtain rfl := e27.symm
          refine g_iconst hF (by decide +kernel : decode cX2_sumOfPairs 30 = .ok (.iconst 0, 1)) ?_
          refine g_max hF lkX2_42 (by decide +kernel : decode cX2_sumOfPairs 31 = .ok (.invokestatic 42, 3)) (by decide) (by omega) (by omega) (Nat.le_of_ble_eq_true rfl) ?_
          refine g_ixor hF (by decide +kernel : decode cX2_sumOfPairs 34 = .ok (.ixor, 1)) ?_
          refine g_iadd hF (by decide +kernel : decode cX2_sumOfPairs 35 = .ok (.iadd, 1)) ?_
          refine g_istore_n hF (by decide +kernel : decode cX2_sumOfPairs 36 = .ok (.istore_n 1, 1)) (by decide) ?_
          refine g_iinc hF (by decide +kernel : decode cX2_sumOfPairs 37 = .ok (.iinc 2 1, 3)) rfl (by decide) ?_
          refine g_goto hF (tgt := 4) (by decide +kernel : decode cX2_sumOfPairs 40 = .ok (.goto (-36), 3)) (by decide) ?_
          exact ih (i + 1) _ _ (by omega) (by omega) (by omega) (by rw [ha, sumN_s, if_neg q16, q8, hk]; rfl)
  exact loop 258 0 0 (-1) (by omega) (by omega) (by omega) (sumN_0 _).symm
set_option maxHeartbeats 4000000 in
set_option maxRecDepth 100000 in
theorem c_X2_sumOfKeys (X : jX) (hX : jxok X) (t : Nat) (ht : t < 19) (m : jM) (hm : rowok (m t)) : Con X yX2_sumOfKeys cX2_sumOfKeys 3 (some .int) 4 [vR 1 t] m (fun o m' => o = some (vI (sumN (fun z => if m t z = -2 then 0 else mx0 (z - 1)) 257)) ∧ m' = m) := by
  refine Con.of hX (by decide) (Nat.le_of_ble_eq_true rfl) (fun F hF hQ => ?_)
  refine g_iconst hF (by decide +kernel : decode cX2_sumOfKeys 0 = .ok (.iconst 0, 1)) ?_
  refine g_istore_n hF (by decide +kernel : decode cX2_sumOfKeys 1 = .ok (.istore_n 1, 1)) (by decide) ?_
  refine g_iconst hF (by decide +kernel : decode cX2_sumOfKeys 2 = .ok (.iconst (-1), 1)) ?_
  refine g_istore_n hF (by decide +kernel : decode cX2_sumOfKeys 3 = .ok (.istore_n 2, 1)) (by decide) ?_
  have loop : ∀ (n i : Nat) (a k : Int), i ≤ 257 → 258 ≤ i + n → k = i - 1 → a = sumN (fun z => if m t z = -2 then 0 else mx0 (z - 1)) i → jG F X m 4 [(0, vR 1 t), (1, vI a), (2, vI k)] [] := by
    intro n
    induction n with
    | zero => intro i a k h1 h2; exact absurd h2 (by omega)
    | succ n ih =>
      intro i a k h1 h2 hk ha
      refine g_iload_n hF (by decide +kernel : decode cX2_sumOfKeys 4 = .ok (.iload_n 2, 1)) rfl ?_
      refine g_sipush hF (by decide +kernel : decode cX2_sumOfKeys 5 = .ok (.sipush 255, 3)) (by decide) ?_
      refine g_icmp_gt hF (tgt := 37) (by decide +kernel : decode cX2_sumOfKeys 8 = .ok (.if_icmp .gt 29, 3)) (by decide) (by omega) (by omega) (fun c8 => ?_) (fun c8 => ?_)
      · skip
        refine g_iload_n hF (by decide +kernel : decode cX2_sumOfKeys 37 = .ok (.iload_n 1, 1)) rfl ?_
        refine g_ireturn hF hQ (by decide +kernel : decode cX2_sumOfKeys 38 = .ok (.ireturn, 1)) ?_
        exact ⟨by rw [ha, show i = 257 by omega], rfl⟩
      · skip
        have q8 := tat_i (f := m t) hk (by omega) (by omega)
        have b8 := tat_b hm k
        refine g_iload_n hF (by decide +kernel : decode cX2_sumOfKeys 11 = .ok (.iload_n 1, 1)) rfl ?_
        refine g_aload_n hF (by decide +kernel : decode cX2_sumOfKeys 12 = .ok (.aload_n 0, 1)) rfl ?_
        refine g_iload_n hF (by decide +kernel : decode cX2_sumOfKeys 13 = .ok (.iload_n 2, 1)) rfl ?_
        refine g_callV hF lkX2_39 (c_X2_isKey X hX _ ht _ (by omega) _ (by assumption)) (by decide +kernel : decode cX2_sumOfKeys 14 = .ok (.invokevirtual 39, 3)) (by decide) rfl rfl rfl rfl ht (Nat.le_of_ble_eq_true rfl) (fun v14 m14 h14 => ?_)
        obtain ⟨rfl, e14⟩ := h14
        obtain rfl := e14.symm
        refine g_if_eq hF (tgt := 28) (by decide +kernel : decode cX2_sumOfKeys 17 = .ok (.ifCond .eq 11, 3)) (by decide) (by split <;> omega) (fun c17 => ?_) (fun c17 => ?_)
        · skip
          have q16 : m t i = -2 := by rw [← q8]; exact Classical.byContradiction (fun q => by rw [if_neg q] at c17; omega)
          refine g_iconst hF (by decide +kernel : decode cX2_sumOfKeys 28 = .ok (.iconst 0, 1)) ?_
          refine g_iadd hF (by decide +kernel : decode cX2_sumOfKeys 29 = .ok (.iadd, 1)) ?_
          refine g_istore_n hF (by decide +kernel : decode cX2_sumOfKeys 30 = .ok (.istore_n 1, 1)) (by decide) ?_
          refine g_iinc hF (by decide +kernel : decode cX2_sumOfKeys 31 = .ok (.iinc 2 1, 3)) rfl (by decide) ?_
          refine g_goto hF (tgt := 4) (by decide +kernel : decode cX2_sumOfKeys 34 = .ok (.goto (-30), 3)) (by decide) ?_
          exact ih (i + 1) _ _ (by omega) (by omega) (by omega) (by rw [ha, sumN_s, if_pos q16])
        · skip
          have q16 : ¬ m t i = -2 := by rw [← q8]; exact fun q => c17 (if_pos q)
          refine g_iload_n hF (by decide +kernel : decode cX2_sumOfKeys 20 = .ok (.iload_n 2, 1)) rfl ?_
          refine g_iconst hF (by decide +kernel : decode cX2_sumOfKeys 21 = .ok (.iconst 0, 1)) ?_
          refine g_max hF lkX2_42 (by decide +kernel : decode cX2_sumOfKeys 22 = .ok (.invokestatic 42, 3)) (by decide) (by omega) (by omega) (Nat.le_of_ble_eq_true rfl) ?_
          refine g_goto hF (tgt := 29) (by decide +kernel : decode cX2_sumOfKeys 25 = .ok (.goto 4, 3)) (by decide) ?_
          refine g_iadd hF (by decide +kernel : decode cX2_sumOfKeys 29 = .ok (.iadd, 1)) ?_
          refine g_istore_n hF (by decide +kernel : decode cX2_sumOfKeys 30 = .ok (.istore_n 1, 1)) (by decide) ?_
          refine g_iinc hF (by decide +kernel : decode cX2_sumOfKeys 31 = .ok (.iinc 2 1, 3)) rfl (by decide) ?_
          refine g_goto hF (tgt := 4) (by decide +kernel : decode cX2_sumOfKeys 34 = .ok (.goto (-30), 3)) (by decide) ?_
          exact ih (i + 1) _ _ (by omega) (by omega) (by omega) (by rw [ha, sumN_s, if_neg q16, hk]; rfl)
  exact loop 258 0 0 (-1) (by omega) (by omega) (by omega) (sumN_0 _).symm
set_option maxHeartbeats 4000000 in
set_option maxRecDepth 100000 in
theorem c_X2_selves (X : jX) (hX : jxok X) (t : Nat) (ht : t < 19) (m : jM) (hm : rowok (m t)) : Con X yX2_selves cX2_selves 3 (some .int) 3 [vR 1 t] m (fun o m' => o = some (vI (sumN (fun z => if m t z = z - 1 then 1 else 0) 257)) ∧ m' = m) := by
  refine Con.of hX (by decide) (Nat.le_of_ble_eq_true rfl) (fun F hF hQ => ?_)
  refine g_iconst hF (by decide +kernel : decode cX2_selves 0 = .ok (.iconst 0, 1)) ?_
  refine g_istore_n hF (by decide +kernel : decode cX2_selves 1 = .ok (.istore_n 1, 1)) (by decide) ?_
  refine g_iconst hF (by decide +kernel : decode cX2_selves 2 = .ok (.iconst (-1), 1)) ?_
  refine g_istore_n hF (by decide +kernel : decode cX2_selves 3 = .ok (.istore_n 2, 1)) (by decide) ?_
  have loop : ∀ (n i : Nat) (a k : Int), i ≤ 257 → 258 ≤ i + n → k = i - 1 → a = sumN (fun z => if m t z = z - 1 then 1 else 0) i → jG F X m 4 [(0, vR 1 t), (1, vI a), (2, vI k)] [] := by
    intro n
    induction n with
    | zero => intro i a k h1 h2; exact absurd h2 (by omega)
    | succ n ih =>
      intro i a k h1 h2 hk ha
      refine g_iload_n hF (by decide +kernel : decode cX2_selves 4 = .ok (.iload_n 2, 1)) rfl ?_
      refine g_sipush hF (by decide +kernel : decode cX2_selves 5 = .ok (.sipush 255, 3)) (by decide) ?_
      refine g_icmp_gt hF (tgt := 34) (by decide +kernel : decode cX2_selves 8 = .ok (.if_icmp .gt 26, 3)) (by decide) (by omega) (by omega) (fun c8 => ?_) (fun c8 => ?_)
      · skip
        refine g_iload_n hF (by decide +kernel : decode cX2_selves 34 = .ok (.iload_n 1, 1)) rfl ?_
        refine g_ireturn hF hQ (by decide +kernel : decode cX2_selves 35 = .ok (.ireturn, 1)) ?_
        exact ⟨by rw [ha, show i = 257 by omega], rfl⟩
      · skip
        have q8 := tat_i (f := m t) hk (by omega) (by omega)
        have b8 := tat_b hm k
        refine g_iload_n hF (by decide +kernel : decode cX2_selves 11 = .ok (.iload_n 1, 1)) rfl ?_
        refine g_aload_n hF (by decide +kernel : decode cX2_selves 12 = .ok (.aload_n 0, 1)) rfl ?_
        refine g_iload_n hF (by decide +kernel : decode cX2_selves 13 = .ok (.iload_n 2, 1)) rfl ?_
        refine g_callV hF lkX2_29 (c_X2_at X hX _ ht _ (by omega) _) (by decide +kernel : decode cX2_selves 14 = .ok (.invokevirtual 29, 3)) (by decide) rfl rfl rfl rfl ht (Nat.le_of_ble_eq_true rfl) (fun v14 m14 h14 => ?_)
        obtain ⟨rfl, e14⟩ := h14
        obtain rfl := e14.symm
        refine g_iload_n hF (by decide +kernel : decode cX2_selves 17 = .ok (.iload_n 2, 1)) rfl ?_
        refine g_icmp_ne hF (tgt := 25) (by decide +kernel : decode cX2_selves 18 = .ok (.if_icmp .ne 7, 3)) (by decide) (by omega) (by omega) (fun c18 => ?_) (fun c18 => ?_)
        · skip
          refine g_iconst hF (by decide +kernel : decode cX2_selves 25 = .ok (.iconst 0, 1)) ?_
          refine g_iadd hF (by decide +kernel : decode cX2_selves 26 = .ok (.iadd, 1)) ?_
          refine g_istore_n hF (by decide +kernel : decode cX2_selves 27 = .ok (.istore_n 1, 1)) (by decide) ?_
          refine g_iinc hF (by decide +kernel : decode cX2_selves 28 = .ok (.iinc 2 1, 3)) rfl (by decide) ?_
          refine g_goto hF (tgt := 4) (by decide +kernel : decode cX2_selves 31 = .ok (.goto (-27), 3)) (by decide) ?_
          exact ih (i + 1) _ _ (by omega) (by omega) (by omega) (by rw [ha, sumN_s]; first | rw [if_pos (by omega)] | rw [if_neg (by omega)])
        · skip
          refine g_iconst hF (by decide +kernel : decode cX2_selves 21 = .ok (.iconst 1, 1)) ?_
          refine g_goto hF (tgt := 26) (by decide +kernel : decode cX2_selves 22 = .ok (.goto 4, 3)) (by decide) ?_
          refine g_iadd hF (by decide +kernel : decode cX2_selves 26 = .ok (.iadd, 1)) ?_
          refine g_istore_n hF (by decide +kernel : decode cX2_selves 27 = .ok (.istore_n 1, 1)) (by decide) ?_
          refine g_iinc hF (by decide +kernel : decode cX2_selves 28 = .ok (.iinc 2 1, 3)) rfl (by decide) ?_
          refine g_goto hF (tgt := 4) (by decide +kernel : decode cX2_selves 31 = .ok (.goto (-27), 3)) (by decide) ?_
          exact ih (i + 1) _ _ (by omega) (by omega) (by omega) (by rw [ha, sumN_s]; first | rw [if_pos (by omega)] | rw [if_neg (by omega)])
  exact loop 258 0 0 (-1) (by omega) (by omega) (by omega) (sumN_0 _).symm
set_option maxHeartbeats 4000000 in
set_option maxRecDepth 100000 in
theorem c_X2_eraseValue (X : jX) (hX : jxok X) (t : Nat) (ht : t < 19) (v : Int) (hv : jr v) (m : jM) (hm : tok m t) : Con X yX2_eraseValue cX2_eraseValue 4 (some .int) 4 [vR 1 t, vI v] m (fun o m' => o = some (vI (cnt (m t) - cnt (fun z => if m t z = v then -2 else m t z))) ∧ m' = tset m t (fun z => if m t z = v then -2 else m t z)) := by
  refine Con.of hX (by decide) (Nat.le_of_ble_eq_true rfl) (fun F hF hQ => ?_)
  refine g_aload_n hF (by decide +kernel : decode cX2_eraseValue 0 = .ok (.aload_n 0, 1)) rfl ?_
  refine g_tcnt hF lkX2_15 (by decide +kernel : decode cX2_eraseValue 1 = .ok (.getfield 15, 3)) ht ?_
  refine g_istore_n hF (by decide +kernel : decode cX2_eraseValue 4 = .ok (.istore_n 2, 1)) (by decide) ?_
  refine g_iconst hF (by decide +kernel : decode cX2_eraseValue 5 = .ok (.iconst (-1), 1)) ?_
  refine g_istore_n hF (by decide +kernel : decode cX2_eraseValue 6 = .ok (.istore_n 3, 1)) (by decide) ?_
  have loop : ∀ (n i : Nat) (k : Int) (mm : jM), i ≤ 257 → 258 ≤ i + n → k = i - 1 → mm = tset m t (upto (fun z => if m t z = v then -2 else m t z) (m t) i) → jG F X mm 7 [(0, vR 1 t), (1, vI v), (2, vI (m (19 + t) 0)), (3, vI k)] [] := by
    intro n
    induction n with
    | zero => intro i k  mm h1 h2; exact absurd h2 (by omega)
    | succ n ih =>
      intro i k  mm h1 h2 hk  hmm
      obtain rfl := hmm.symm
      have hg : rowok (fun z => if m t z = v then -2 else m t z) := (fun z h0 h3 => by have := hm.1 z h0 h3; show -2 ≤ (if m t z = v then -2 else m t z) ∧ (if m t z = v then -2 else m t z) ≤ 255; split <;> omega)
      have hr : rowok (upto (fun z => if m t z = v then -2 else m t z) (m t) i) := upto_ok hg hm.1 i
      have htk : tok (tset m t (upto (fun z => if m t z = v then -2 else m t z) (m t) i)) t := tset_tok hr
      have htr : rowok (tset m t (upto (fun z => if m t z = v then -2 else m t z) (m t) i) t) := htk.1
      refine g_iload_n hF (by decide +kernel : decode cX2_eraseValue 7 = .ok (.iload_n 3, 1)) rfl ?_
      refine g_sipush hF (by decide +kernel : decode cX2_eraseValue 8 = .ok (.sipush 255, 3)) (by decide) ?_
      refine g_icmp_gt hF (tgt := 36) (by decide +kernel : decode cX2_eraseValue 11 = .ok (.if_icmp .gt 25, 3)) (by decide) (by omega) (by omega) (fun c11 => ?_) (fun c11 => ?_)
      · skip
        obtain rfl : i = 257 := by omega
        refine g_eqv (m' := tset m t (fun z => if m t z = v then -2 else m t z)) (tset_eqv ht upto_all) ?_
        refine g_iload_n hF (by decide +kernel : decode cX2_eraseValue 36 = .ok (.iload_n 2, 1)) rfl ?_
        refine g_aload_n hF (by decide +kernel : decode cX2_eraseValue 37 = .ok (.aload_n 0, 1)) rfl ?_
        refine g_tcnt hF lkX2_15 (by decide +kernel : decode cX2_eraseValue 38 = .ok (.getfield 15, 3)) ht ?_
        refine g_isub hF (by decide +kernel : decode cX2_eraseValue 41 = .ok (.isub, 1)) ?_
        refine g_ireturn hF hQ (by decide +kernel : decode cX2_eraseValue 42 = .ok (.ireturn, 1)) ?_
        exact ⟨by rw [hm.2, tset_ct], rfl⟩
      · skip
        have q8 : tat (tset m t (upto (fun z => if m t z = v then -2 else m t z) (m t) i) t) k = m t i := by rw [tat_i (f := tset m t (upto (fun z => if m t z = v then -2 else m t z) (m t) i) t) hk (by omega) (by omega), tset_at, upto_at (Int.le_refl _)]
        have b8 := tat_b htr k
        refine g_aload_n hF (by decide +kernel : decode cX2_eraseValue 14 = .ok (.aload_n 0, 1)) rfl ?_
        refine g_iload_n hF (by decide +kernel : decode cX2_eraseValue 15 = .ok (.iload_n 3, 1)) rfl ?_
        refine g_callV hF lkX2_29 (c_X2_at X hX _ ht _ (by omega) _) (by decide +kernel : decode cX2_eraseValue 16 = .ok (.invokevirtual 29, 3)) (by decide) rfl rfl rfl rfl ht (Nat.le_of_ble_eq_true rfl) (fun v16 m16 h16 => ?_)
        obtain ⟨rfl, e16⟩ := h16
        obtain rfl := e16.symm
        refine g_iload_n hF (by decide +kernel : decode cX2_eraseValue 19 = .ok (.iload_n 1, 1)) rfl ?_
        refine g_icmp_ne hF (tgt := 30) (by decide +kernel : decode cX2_eraseValue 20 = .ok (.if_icmp .ne 10, 3)) (by decide) (by omega) (by omega) (fun c20 => ?_) (fun c20 => ?_)
        · skip
          refine g_iinc hF (by decide +kernel : decode cX2_eraseValue 30 = .ok (.iinc 3 1, 3)) rfl (by decide) ?_
          refine g_goto hF (tgt := 7) (by decide +kernel : decode cX2_eraseValue 33 = .ok (.goto (-26), 3)) (by decide) ?_
          exact ih (i + 1) _ _ (by omega) (by omega) (by omega)  (wl_skip (if_neg (by rw [← q8]; exact c20)) rfl)
        · skip
          refine g_aload_n hF (by decide +kernel : decode cX2_eraseValue 23 = .ok (.aload_n 0, 1)) rfl ?_
          refine g_iload_n hF (by decide +kernel : decode cX2_eraseValue 24 = .ok (.iload_n 3, 1)) rfl ?_
          refine g_bipush hF (by decide +kernel : decode cX2_eraseValue 25 = .ok (.bipush (-2), 2)) (by decide) ?_
          refine g_callV hF lkX2_48 (c_X2_mark X hX _ ht _ _ (by omega) (by omega) _ (by assumption)) (by decide +kernel : decode cX2_eraseValue 27 = .ok (.invokevirtual 48, 3)) (by decide) rfl rfl rfl rfl ht (Nat.le_of_ble_eq_true rfl) (fun v27 m27 h27 => ?_)
          obtain ⟨rfl, e27⟩ := h27
          obtain rfl := e27.symm
          refine g_iinc hF (by decide +kernel : decode cX2_eraseValue 30 = .ok (.iinc 3 1, 3)) rfl (by decide) ?_
          refine g_goto hF (tgt := 7) (by decide +kernel : decode cX2_eraseValue 33 = .ok (.goto (-26), 3)) (by decide) ?_
          exact ih (i + 1) _ _ (by omega) (by omega) (by omega)  (wl_mark ((if_pos (by rw [← q8]; omega)).symm) (by omega) rfl (by omega))
  exact loop 258 0 (-1)  _ (by omega) (by omega) (by omega)  (wl_0 (fun z => if m t z = v then -2 else m t z) hm.2)
set_option maxHeartbeats 4000000 in
set_option maxRecDepth 100000 in
theorem c_X2_eraseOdd (X : jX) (hX : jxok X) (t : Nat) (ht : t < 19) (m : jM) (hm : tok m t) : Con X yX2_eraseOdd cX2_eraseOdd 3 (some .int) 4 [vR 1 t] m (fun o m' => o = some (vI (cnt (m t) - cnt (fun z => if 0 < m t z ∧ jand (m t z) 1 = 1 then -2 else m t z))) ∧ m' = tset m t (fun z => if 0 < m t z ∧ jand (m t z) 1 = 1 then -2 else m t z)) := by
  refine Con.of hX (by decide) (Nat.le_of_ble_eq_true rfl) (fun F hF hQ => ?_)
  refine g_aload_n hF (by decide +kernel : decode cX2_eraseOdd 0 = .ok (.aload_n 0, 1)) rfl ?_
  refine g_tcnt hF lkX2_15 (by decide +kernel : decode cX2_eraseOdd 1 = .ok (.getfield 15, 3)) ht ?_
  refine g_istore_n hF (by decide +kernel : decode cX2_eraseOdd 4 = .ok (.istore_n 1, 1)) (by decide) ?_
  refine g_iconst hF (by decide +kernel : decode cX2_eraseOdd 5 = .ok (.iconst (-1), 1)) ?_
  refine g_istore_n hF (by decide +kernel : decode cX2_eraseOdd 6 = .ok (.istore_n 2, 1)) (by decide) ?_
  have loop : ∀ (n i : Nat) (k : Int) (mm : jM), i ≤ 257 → 258 ≤ i + n → k = i - 1 → mm = tset m t (upto (fun z => if 0 < m t z ∧ jand (m t z) 1 = 1 then -2 else m t z) (m t) i) → jG F X mm 7 [(0, vR 1 t), (1, vI (m (19 + t) 0)), (2, vI k)] [] := by
    intro n
    induction n with
    | zero => intro i k  mm h1 h2; exact absurd h2 (by omega)
    | succ n ih =>
      intro i k  mm h1 h2 hk  hmm
      obtain rfl := hmm.symm
      have hg : rowok (fun z => if 0 < m t z ∧ jand (m t z) 1 = 1 then -2 else m t z) := (fun z h0 h3 => by have := hm.1 z h0 h3; show -2 ≤ (if 0 < m t z ∧ jand (m t z) 1 = 1 then -2 else m t z) ∧ (if 0 < m t z ∧ jand (m t z) 1 = 1 then -2 else m t z) ≤ 255; split <;> omega)
      have hr : rowok (upto (fun z => if 0 < m t z ∧ jand (m t z) 1 = 1 then -2 else m t z) (m t) i) := upto_ok hg hm.1 i
      have htk : tok (tset m t (upto (fun z => if 0 < m t z ∧ jand (m t z) 1 = 1 then -2 else m t z) (m t) i)) t := tset_tok hr
      have htr : rowok (tset m t (upto (fun z => if 0 < m t z ∧ jand (m t z) 1 = 1 then -2 else m t z) (m t) i) t) := htk.1
      refine g_iload_n hF (by decide +kernel : decode cX2_eraseOdd 7 = .ok (.iload_n 2, 1)) rfl ?_
      refine g_sipush hF (by decide +kernel : decode cX2_eraseOdd 8 = .ok (.sipush 255, 3)) (by decide) ?_
      refine g_icmp_gt hF (tgt := 46) (by decide +kernel : decode cX2_eraseOdd 11 = .ok (.if_icmp .gt 35, 3)) (by decide) (by omega) (by omega) (fun c11 => ?_) (fun c11 => ?_)
      · skip
        obtain rfl : i = 257 := by omega
        refine g_eqv (m' := tset m t (fun z => if 0 < m t z ∧ jand (m t z) 1 = 1 then -2 else m t z)) (tset_eqv ht upto_all) ?_
        refine g_iload_n hF (by decide +kernel : decode cX2_eraseOdd 46 = .ok (.iload_n 1, 1)) rfl ?_
        refine g_aload_n hF (by decide +kernel : decode cX2_eraseOdd 47 = .ok (.aload_n 0, 1)) rfl ?_
        refine g_tcnt hF lkX2_15 (by decide +kernel : decode cX2_eraseOdd 48 = .ok (.getfield 15, 3)) ht ?_
        refine g_isub hF (by decide +kernel : decode cX2_eraseOdd 51 = .ok (.isub, 1)) ?_
        refine g_ireturn hF hQ (by decide +kernel : decode cX2_eraseOdd 52 = .ok (.ireturn, 1)) ?_
        exact ⟨by rw [hm.2, tset_ct], rfl⟩
      · skip
        have q8 : tat (tset m t (upto (fun z => if 0 < m t z ∧ jand (m t z) 1 = 1 then -2 else m t z) (m t) i) t) k = m t i := by rw [tat_i (f := tset m t (upto (fun z => if 0 < m t z ∧ jand (m t z) 1 = 1 then -2 else m t z) (m t) i) t) hk (by omega) (by omega), tset_at, upto_at (Int.le_refl _)]
        have b8 := tat_b htr k
        refine g_aload_n hF (by decide +kernel : decode cX2_eraseOdd 14 = .ok (.aload_n 0, 1)) rfl ?_
        refine g_iload_n hF (by decide +kernel : decode cX2_eraseOdd 15 = .ok (.iload_n 2, 1)) rfl ?_
        refine g_callV hF lkX2_29 (c_X2_at X hX _ ht _ (by omega) _) (by decide +kernel : decode cX2_eraseOdd 16 = .ok (.invokevirtual 29, 3)) (by decide) rfl rfl rfl rfl ht (Nat.le_of_ble_eq_true rfl) (fun v16 m16 h16 => ?_)
        obtain ⟨rfl, e16⟩ := h16
        obtain rfl := e16.symm
        refine g_if_le hF (tgt := 40) (by decide +kernel : decode cX2_eraseOdd 19 = .ok (.ifCond .le 21, 3)) (by decide) (by omega) (fun c19 => ?_) (fun c19 => ?_)
        · skip
          refine g_iinc hF (by decide +kernel : decode cX2_eraseOdd 40 = .ok (.iinc 2 1, 3)) rfl (by decide) ?_
          refine g_goto hF (tgt := 7) (by decide +kernel : decode cX2_eraseOdd 43 = .ok (.goto (-36), 3)) (by decide) ?_
          exact ih (i + 1) _ _ (by omega) (by omega) (by omega)  (wl_skip (if_neg (by rw [← q8]; omega)) rfl)
        · skip
          refine g_aload_n hF (by decide +kernel : decode cX2_eraseOdd 22 = .ok (.aload_n 0, 1)) rfl ?_
          refine g_iload_n hF (by decide +kernel : decode cX2_eraseOdd 23 = .ok (.iload_n 2, 1)) rfl ?_
          refine g_callV hF lkX2_29 (c_X2_at X hX _ ht _ (by omega) _) (by decide +kernel : decode cX2_eraseOdd 24 = .ok (.invokevirtual 29, 3)) (by decide) rfl rfl rfl rfl ht (Nat.le_of_ble_eq_true rfl) (fun v24 m24 h24 => ?_)
          obtain ⟨rfl, e24⟩ := h24
          obtain rfl := e24.symm
          refine g_iconst hF (by decide +kernel : decode cX2_eraseOdd 27 = .ok (.iconst 1, 1)) ?_
          refine g_iand hF (by decide +kernel : decode cX2_eraseOdd 28 = .ok (.iand, 1)) ?_
          refine g_iconst hF (by decide +kernel : decode cX2_eraseOdd 29 = .ok (.iconst 1, 1)) ?_
          refine g_icmp_ne hF (tgt := 40) (by decide +kernel : decode cX2_eraseOdd 30 = .ok (.if_icmp .ne 10, 3)) (by decide) (by have := jand_r (tat (tset m t (upto (fun z => if 0 < m t z ∧ jand (m t z) 1 = 1 then -2 else m t z) (m t) i) t) k) 1; omega) (by omega) (fun c30 => ?_) (fun c30 => ?_)
          · skip
            refine g_iinc hF (by decide +kernel : decode cX2_eraseOdd 40 = .ok (.iinc 2 1, 3)) rfl (by decide) ?_
            refine g_goto hF (tgt := 7) (by decide +kernel : decode cX2_eraseOdd 43 = .ok (.goto (-36), 3)) (by decide) ?_
            exact ih (i + 1) _ _ (by omega) (by omega) (by omega)  (wl_skip (if_neg (by rw [← q8]; exact fun q => c30 q.2)) rfl)
          · skip
            refine g_aload_n hF (by decide +kernel : decode cX2_eraseOdd 33 = .ok (.aload_n 0, 1)) rfl ?_
            refine g_iload_n hF (by decide +kernel : decode cX2_eraseOdd 34 = .ok (.iload_n 2, 1)) rfl ?_
            refine g_bipush hF (by decide +kernel : decode cX2_eraseOdd 35 = .ok (.bipush (-2), 2)) (by decide) ?_
            refine g_callV hF lkX2_48 (c_X2_mark X hX _ ht _ _ (by omega) (by omega) _ (by assumption)) (by decide +kernel : decode cX2_eraseOdd 37 = .ok (.invokevirtual 48, 3)) (by decide) rfl rfl rfl rfl ht (Nat.le_of_ble_eq_true rfl) (fun v37 m37 h37 => ?_)
            obtain ⟨rfl, e37⟩ := h37
            obtain rfl := e37.symm
            refine g_iinc hF (by decide +kernel : decode cX2_eraseOdd 40 = .ok (.iinc 2 1, 3)) rfl (by decide) ?_
            refine g_goto hF (tgt := 7) (by decide +kernel : decode cX2_eraseOdd 43 = .ok (.goto (-36), 3)) (by decide) ?_
            exact ih (i + 1) _ _ (by omega) (by omega) (by omega)  (wl_mark ((if_pos (by rw [← q8]; exact ⟨by omega, c30⟩)).symm) (by omega) rfl (by omega))
  exact loop 258 0 (-1)  _ (by omega) (by omega) (by omega)  (wl_0 (fun z => if 0 < m t z ∧ jand (m t z) 1 = 1 then -2 else m t z) hm.2)
set_option maxHeartbeats 4000000 in
set_option maxRecDepth 100000 in
theorem c_X2_markAll (X : jX) (hX : jxok X) (t : Nat) (ht : t < 19) (u : Nat) (hu : u < 19) (hne : u ≠ t) (m : jM) (hm : tok m t) (hmu : rowok (m u)) : Con X yX2_markAll cX2_markAll 3 none 4 [vR 1 t, vR 1 u] m (fun o m' => o = none ∧ m' = tset m t (fun z => if m u z = -2 then m t z else m u z)) := by
  refine Con.of hX (by decide) (Nat.le_of_ble_eq_true rfl) (fun F hF hQ => ?_)
  refine g_iconst hF (by decide +kernel : decode cX2_markAll 0 = .ok (.iconst (-1), 1)) ?_
  refine g_istore_n hF (by decide +kernel : decode cX2_markAll 1 = .ok (.istore_n 2, 1)) (by decide) ?_
  have loop : ∀ (n i : Nat) (k : Int) (mm : jM), i ≤ 257 → 258 ≤ i + n → k = i - 1 → mm = tset m t (upto (fun z => if m u z = -2 then m t z else m u z) (m t) i) → jG F X mm 2 [(0, vR 1 t), (1, vR 1 u), (2, vI k)] [] := by
    intro n
    induction n with
    | zero => intro i k  mm h1 h2; exact absurd h2 (by omega)
    | succ n ih =>
      intro i k  mm h1 h2 hk  hmm
      obtain rfl := hmm.symm
      have hg : rowok (fun z => if m u z = -2 then m t z else m u z) := (fun z h0 h3 => by have := hm.1 z h0 h3; have := hmu z h0 h3; show -2 ≤ (if m u z = -2 then m t z else m u z) ∧ (if m u z = -2 then m t z else m u z) ≤ 255; split <;> first | omega | exact tat_b hmu _)
      have hr : rowok (upto (fun z => if m u z = -2 then m t z else m u z) (m t) i) := upto_ok hg hm.1 i
      have htk : tok (tset m t (upto (fun z => if m u z = -2 then m t z else m u z) (m t) i)) t := tset_tok hr
      have htr : rowok (tset m t (upto (fun z => if m u z = -2 then m t z else m u z) (m t) i) t) := htk.1
      have eu : tset m t (upto (fun z => if m u z = -2 then m t z else m u z) (m t) i) u = m u := tset_ne hne (by omega)
      have hur : rowok (tset m t (upto (fun z => if m u z = -2 then m t z else m u z) (m t) i) u) := by rw [eu]; exact hmu
      refine g_iload_n hF (by decide +kernel : decode cX2_markAll 2 = .ok (.iload_n 2, 1)) rfl ?_
      refine g_sipush hF (by decide +kernel : decode cX2_markAll 3 = .ok (.sipush 255, 3)) (by decide) ?_
      refine g_icmp_gt hF (tgt := 33) (by decide +kernel : decode cX2_markAll 6 = .ok (.if_icmp .gt 27, 3)) (by decide) (by omega) (by omega) (fun c6 => ?_) (fun c6 => ?_)
      · skip
        obtain rfl : i = 257 := by omega
        refine g_eqv (m' := tset m t (fun z => if m u z = -2 then m t z else m u z)) (tset_eqv ht upto_all) ?_
        refine g_return hF hQ (by decide +kernel : decode cX2_markAll 33 = .ok (.return_, 1)) ?_
        exact ⟨rfl, rfl⟩
      · skip
        have q8 : tat (tset m t (upto (fun z => if m u z = -2 then m t z else m u z) (m t) i) t) k = m t i := by rw [tat_i (f := tset m t (upto (fun z => if m u z = -2 then m t z else m u z) (m t) i) t) hk (by omega) (by omega), tset_at, upto_at (Int.le_refl _)]
        have b8 := tat_b htr k
        have q9 : tat (tset m t (upto (fun z => if m u z = -2 then m t z else m u z) (m t) i) u) k = m u i := by rw [tat_i (f := tset m t (upto (fun z => if m u z = -2 then m t z else m u z) (m t) i) u) hk (by omega) (by omega), eu]
        have b9 := tat_b hur k
        refine g_aload_n hF (by decide +kernel : decode cX2_markAll 9 = .ok (.aload_n 1, 1)) rfl ?_
        refine g_iload_n hF (by decide +kernel : decode cX2_markAll 10 = .ok (.iload_n 2, 1)) rfl ?_
        refine g_callV hF lkX2_39 (c_X2_isKey X hX _ hu _ (by omega) _ (by assumption)) (by decide +kernel : decode cX2_markAll 11 = .ok (.invokevirtual 39, 3)) (by decide) rfl rfl rfl rfl hu (Nat.le_of_ble_eq_true rfl) (fun v11 m11 h11 => ?_)
        obtain ⟨rfl, e11⟩ := h11
        obtain rfl := e11.symm
        refine g_if_eq hF (tgt := 27) (by decide +kernel : decode cX2_markAll 14 = .ok (.ifCond .eq 13, 3)) (by decide) (by split <;> omega) (fun c14 => ?_) (fun c14 => ?_)
        · skip
          have z14 : m u i = -2 := by rw [← q9]; exact Classical.byContradiction (fun q => by rw [if_neg q] at c14; omega)
          refine g_iinc hF (by decide +kernel : decode cX2_markAll 27 = .ok (.iinc 2 1, 3)) rfl (by decide) ?_
          refine g_goto hF (tgt := 2) (by decide +kernel : decode cX2_markAll 30 = .ok (.goto (-28), 3)) (by decide) ?_
          exact ih (i + 1) _ _ (by omega) (by omega) (by omega)  (wl_skip (if_pos z14) rfl)
        · skip
          have z14 : ¬ m u i = -2 := by rw [← q9]; exact fun q => c14 (if_pos q)
          refine g_aload_n hF (by decide +kernel : decode cX2_markAll 17 = .ok (.aload_n 0, 1)) rfl ?_
          refine g_iload_n hF (by decide +kernel : decode cX2_markAll 18 = .ok (.iload_n 2, 1)) rfl ?_
          refine g_aload_n hF (by decide +kernel : decode cX2_markAll 19 = .ok (.aload_n 1, 1)) rfl ?_
          refine g_iload_n hF (by decide +kernel : decode cX2_markAll 20 = .ok (.iload_n 2, 1)) rfl ?_
          refine g_callV hF lkX2_29 (c_X2_at X hX _ hu _ (by omega) _) (by decide +kernel : decode cX2_markAll 21 = .ok (.invokevirtual 29, 3)) (by decide) rfl rfl rfl rfl hu (Nat.le_of_ble_eq_true rfl) (fun v21 m21 h21 => ?_)
          obtain ⟨rfl, e21⟩ := h21
          obtain rfl := e21.symm
          refine g_callV hF lkX2_48 (c_X2_mark X hX _ ht _ _ (by omega) (by omega) _ (by assumption)) (by decide +kernel : decode cX2_markAll 24 = .ok (.invokevirtual 48, 3)) (by decide) rfl rfl rfl rfl ht (Nat.le_of_ble_eq_true rfl) (fun v24 m24 h24 => ?_)
          obtain ⟨rfl, e24⟩ := h24
          obtain rfl := e24.symm
          refine g_iinc hF (by decide +kernel : decode cX2_markAll 27 = .ok (.iinc 2 1, 3)) rfl (by decide) ?_
          refine g_goto hF (tgt := 2) (by decide +kernel : decode cX2_markAll 30 = .ok (.goto (-28), 3)) (by decide) ?_
          exact ih (i + 1) _ _ (by omega) (by omega) (by omega)  (wl_mark (by rw [q9]; exact (if_neg z14).symm) (by omega) rfl (by omega))
  exact loop 258 0 (-1)  _ (by omega) (by omega) (by omega)  (wl_0 (fun z => if m u z = -2 then m t z else m u z) hm.2)
set_option maxHeartbeats 4000000 in
set_option maxRecDepth 100000 in
theorem c_X2_eraseKeysOf (X : jX) (hX : jxok X) (t : Nat) (ht : t < 19) (u : Nat) (hu : u < 19) (hne : u ≠ t) (m : jM) (hm : tok m t) (hmu : rowok (m u)) : Con X yX2_eraseKeysOf cX2_eraseKeysOf 3 none 4 [vR 1 t, vR 1 u] m (fun o m' => o = none ∧ m' = tset m t (fun z => if m u z = -2 then m t z else -2)) := by
  refine Con.of hX (by decide) (Nat.le_of_ble_eq_true rfl) (fun F hF hQ => ?_)
  refine g_iconst hF (by decide +kernel : decode cX2_eraseKeysOf 0 = .ok (.iconst (-1), 1)) ?_
  refine g_istore_n hF (by decide +kernel : decode cX2_eraseKeysOf 1 = .ok (.istore_n 2, 1)) (by decide) ?_
  have loop : ∀ (n i : Nat) (k : Int) (mm : jM), i ≤ 257 → 258 ≤ i + n → k = i - 1 → mm = tset m t (upto (fun z => if m u z = -2 then m t z else -2) (m t) i) → jG F X mm 2 [(0, vR 1 t), (1, vR 1 u), (2, vI k)] [] := by
    intro n
    induction n with
    | zero => intro i k  mm h1 h2; exact absurd h2 (by omega)
    | succ n ih =>
      intro i k  mm h1 h2 hk  hmm
      obtain rfl := hmm.symm
      have hg : rowok (fun z => if m u z = -2 then m t z else -2) := (fun z h0 h3 => by have := hm.1 z h0 h3; have := hmu z h0 h3; show -2 ≤ (if m u z = -2 then m t z else -2) ∧ (if m u z = -2 then m t z else -2) ≤ 255; split <;> first | omega | exact tat_b hmu _)
      have hr : rowok (upto (fun z => if m u z = -2 then m t z else -2) (m t) i) := upto_ok hg hm.1 i
      have htk : tok (tset m t (upto (fun z => if m u z = -2 then m t z else -2) (m t) i)) t := tset_tok hr
      have htr : rowok (tset m t (upto (fun z => if m u z = -2 then m t z else -2) (m t) i) t) := htk.1
      have eu : tset m t (upto (fun z => if m u z = -2 then m t z else -2) (m t) i) u = m u := tset_ne hne (by omega)
      have hur : rowok (tset m t (upto (fun z => if m u z = -2 then m t z else -2) (m t) i) u) := by rw [eu]; exact hmu
      refine g_iload_n hF (by decide +kernel : decode cX2_eraseKeysOf 2 = .ok (.iload_n 2, 1)) rfl ?_
      refine g_sipush hF (by decide +kernel : decode cX2_eraseKeysOf 3 = .ok (.sipush 255, 3)) (by decide) ?_
      refine g_icmp_gt hF (tgt := 30) (by decide +kernel : decode cX2_eraseKeysOf 6 = .ok (.if_icmp .gt 24, 3)) (by decide) (by omega) (by omega) (fun c6 => ?_) (fun c6 => ?_)
      · skip
        obtain rfl : i = 257 := by omega
        refine g_eqv (m' := tset m t (fun z => if m u z = -2 then m t z else -2)) (tset_eqv ht upto_all) ?_
        refine g_return hF hQ (by decide +kernel : decode cX2_eraseKeysOf 30 = .ok (.return_, 1)) ?_
        exact ⟨rfl, rfl⟩
      · skip
        have q8 : tat (tset m t (upto (fun z => if m u z = -2 then m t z else -2) (m t) i) t) k = m t i := by rw [tat_i (f := tset m t (upto (fun z => if m u z = -2 then m t z else -2) (m t) i) t) hk (by omega) (by omega), tset_at, upto_at (Int.le_refl _)]
        have b8 := tat_b htr k
        have q9 : tat (tset m t (upto (fun z => if m u z = -2 then m t z else -2) (m t) i) u) k = m u i := by rw [tat_i (f := tset m t (upto (fun z => if m u z = -2 then m t z else -2) (m t) i) u) hk (by omega) (by omega), eu]
        have b9 := tat_b hur k
        refine g_aload_n hF (by decide +kernel : decode cX2_eraseKeysOf 9 = .ok (.aload_n 1, 1)) rfl ?_
        refine g_iload_n hF (by decide +kernel : decode cX2_eraseKeysOf 10 = .ok (.iload_n 2, 1)) rfl ?_
        refine g_callV hF lkX2_39 (c_X2_isKey X hX _ hu _ (by omega) _ (by assumption)) (by decide +kernel : decode cX2_eraseKeysOf 11 = .ok (.invokevirtual 39, 3)) (by decide) rfl rfl rfl rfl hu (Nat.le_of_ble_eq_true rfl) (fun v11 m11 h11 => ?_)
        obtain ⟨rfl, e11⟩ := h11
        obtain rfl := e11.symm
        refine g_if_eq hF (tgt := 24) (by decide +kernel : decode cX2_eraseKeysOf 14 = .ok (.ifCond .eq 10, 3)) (by decide) (by split <;> omega) (fun c14 => ?_) (fun c14 => ?_)
        · skip
          have z14 : m u i = -2 := by rw [← q9]; exact Classical.byContradiction (fun q => by rw [if_neg q] at c14; omega)
          refine g_iinc hF (by decide +kernel : decode cX2_eraseKeysOf 24 = .ok (.iinc 2 1, 3)) rfl (by decide) ?_
          refine g_goto hF (tgt := 2) (by decide +kernel : decode cX2_eraseKeysOf 27 = .ok (.goto (-25), 3)) (by decide) ?_
          exact ih (i + 1) _ _ (by omega) (by omega) (by omega)  (wl_skip (if_pos z14) rfl)
        · skip
          have z14 : ¬ m u i = -2 := by rw [← q9]; exact fun q => c14 (if_pos q)
          refine g_aload_n hF (by decide +kernel : decode cX2_eraseKeysOf 17 = .ok (.aload_n 0, 1)) rfl ?_
          refine g_iload_n hF (by decide +kernel : decode cX2_eraseKeysOf 18 = .ok (.iload_n 2, 1)) rfl ?_
          refine g_bipush hF (by decide +kernel : decode cX2_eraseKeysOf 19 = .ok (.bipush (-2), 2)) (by decide) ?_
          refine g_callV hF lkX2_48 (c_X2_mark X hX _ ht _ _ (by omega) (by omega) _ (by assumption)) (by decide +kernel : decode cX2_eraseKeysOf 21 = .ok (.invokevirtual 48, 3)) (by decide) rfl rfl rfl rfl ht (Nat.le_of_ble_eq_true rfl) (fun v21 m21 h21 => ?_)
          obtain ⟨rfl, e21⟩ := h21
          obtain rfl := e21.symm
          refine g_iinc hF (by decide +kernel : decode cX2_eraseKeysOf 24 = .ok (.iinc 2 1, 3)) rfl (by decide) ?_
          refine g_goto hF (tgt := 2) (by decide +kernel : decode cX2_eraseKeysOf 27 = .ok (.goto (-25), 3)) (by decide) ?_
          exact ih (i + 1) _ _ (by omega) (by omega) (by omega)  (wl_mark ((if_neg z14).symm) (by omega) rfl (by omega))
  exact loop 258 0 (-1)  _ (by omega) (by omega) (by omega)  (wl_0 (fun z => if m u z = -2 then m t z else -2) hm.2)
set_option maxHeartbeats 4000000 in
set_option maxRecDepth 100000 in
theorem c_X2_retainKeysOf (X : jX) (hX : jxok X) (t : Nat) (ht : t < 19) (u : Nat) (hu : u < 19) (hne : u ≠ t) (m : jM) (hm : tok m t) (hmu : rowok (m u)) : Con X yX2_retainKeysOf cX2_retainKeysOf 3 none 4 [vR 1 t, vR 1 u] m (fun o m' => o = none ∧ m' = tset m t (fun z => if m u z = -2 then -2 else m t z)) := by
  refine Con.of hX (by decide) (Nat.le_of_ble_eq_true rfl) (fun F hF hQ => ?_)
  refine g_iconst hF (by decide +kernel : decode cX2_retainKeysOf 0 = .ok (.iconst (-1), 1)) ?_
  refine g_istore_n hF (by decide +kernel : decode cX2_retainKeysOf 1 = .ok (.istore_n 2, 1)) (by decide) ?_
  have loop : ∀ (n i : Nat) (k : Int) (mm : jM), i ≤ 257 → 258 ≤ i + n → k = i - 1 → mm = tset m t (upto (fun z => if m u z = -2 then -2 else m t z) (m t) i) → jG F X mm 2 [(0, vR 1 t), (1, vR 1 u), (2, vI k)] [] := by
    intro n
    induction n with
    | zero => intro i k  mm h1 h2; exact absurd h2 (by omega)
    | succ n ih =>
      intro i k  mm h1 h2 hk  hmm
      obtain rfl := hmm.symm
      have hg : rowok (fun z => if m u z = -2 then -2 else m t z) := (fun z h0 h3 => by have := hm.1 z h0 h3; have := hmu z h0 h3; show -2 ≤ (if m u z = -2 then -2 else m t z) ∧ (if m u z = -2 then -2 else m t z) ≤ 255; split <;> first | omega | exact tat_b hmu _)
      have hr : rowok (upto (fun z => if m u z = -2 then -2 else m t z) (m t) i) := upto_ok hg hm.1 i
      have htk : tok (tset m t (upto (fun z => if m u z = -2 then -2 else m t z) (m t) i)) t := tset_tok hr
      have htr : rowok (tset m t (upto (fun z => if m u z = -2 then -2 else m t z) (m t) i) t) := htk.1
      have eu : tset m t (upto (fun z => if m u z = -2 then -2 else m t z) (m t) i) u = m u := tset_ne hne (by omega)
      have hur : rowok (tset m t (upto (fun z => if m u z = -2 then -2 else m t z) (m t) i) u) := by rw [eu]; exact hmu
      refine g_iload_n hF (by decide +kernel : decode cX2_retainKeysOf 2 = .ok (.iload_n 2, 1)) rfl ?_
      refine g_sipush hF (by decide +kernel : decode cX2_retainKeysOf 3 = .ok (.sipush 255, 3)) (by decide) ?_
      refine g_icmp_gt hF (tgt := 30) (by decide +kernel : decode cX2_retainKeysOf 6 = .ok (.if_icmp .gt 24, 3)) (by decide) (by omega) (by omega) (fun c6 => ?_) (fun c6 => ?_)
      · skip
        obtain rfl : i = 257 := by omega
        refine g_eqv (m' := tset m t (fun z => if m u z = -2 then -2 else m t z)) (tset_eqv ht upto_all) ?_
        refine g_return hF hQ (by decide +kernel : decode cX2_retainKeysOf 30 = .ok (.return_, 1)) ?_
        exact ⟨rfl, rfl⟩
      · skip
        have q8 : tat (tset m t (upto (fun z => if m u z = -2 then -2 else m t z) (m t) i) t) k = m t i := by rw [tat_i (f := tset m t (upto (fun z => if m u z = -2 then -2 else m t z) (m t) i) t) hk (by omega) (by omega), tset_at, upto_at (Int.le_refl _)]
        have b8 := tat_b htr k
        have q9 : tat (tset m t (upto (fun z => if m u z = -2 then -2 else m t z) (m t) i) u) k = m u i := by rw [tat_i (f := tset m t (upto (fun z => if m u z = -2 then -2 else m t z) (m t) i) u) hk (by omega) (by omega), eu]
        have b9 := tat_b hur k
        refine g_aload_n hF (by decide +kernel : decode cX2_retainKeysOf 9 = .ok (.aload_n 1, 1)) rfl ?_
        refine g_iload_n hF (by decide +kernel : decode cX2_retainKeysOf 10 = .ok (.iload_n 2, 1)) rfl ?_
        refine g_callV hF lkX2_39 (c_X2_isKey X hX _ hu _ (by omega) _ (by assumption)) (by decide +kernel : decode cX2_retainKeysOf 11 = .ok (.invokevirtual 39, 3)) (by decide) rfl rfl rfl rfl hu (Nat.le_of_ble_eq_true rfl) (fun v11 m11 h11 => ?_)
        obtain ⟨rfl, e11⟩ := h11
        obtain rfl := e11.symm
        refine g_if_ne hF (tgt := 24) (by decide +kernel : decode cX2_retainKeysOf 14 = .ok (.ifCond .ne 10, 3)) (by decide) (by split <;> omega) (fun c14 => ?_) (fun c14 => ?_)
        · skip
          have z14 : ¬ m u i = -2 := by rw [← q9]; exact fun q => c14 (if_pos q)
          refine g_iinc hF (by decide +kernel : decode cX2_retainKeysOf 24 = .ok (.iinc 2 1, 3)) rfl (by decide) ?_
          refine g_goto hF (tgt := 2) (by decide +kernel : decode cX2_retainKeysOf 27 = .ok (.goto (-25), 3)) (by decide) ?_
          exact ih (i + 1) _ _ (by omega) (by omega) (by omega)  (wl_skip (if_neg z14) rfl)
        · skip
          have z14 : m u i = -2 := by rw [← q9]; exact Classical.byContradiction (fun q => by rw [if_neg q] at c14; omega)
          refine g_aload_n hF (by decide +kernel : decode cX2_retainKeysOf 17 = .ok (.aload_n 0, 1)) rfl ?_
          refine g_iload_n hF (by decide +kernel : decode cX2_retainKeysOf 18 = .ok (.iload_n 2, 1)) rfl ?_
          refine g_bipush hF (by decide +kernel : decode cX2_retainKeysOf 19 = .ok (.bipush (-2), 2)) (by decide) ?_
          refine g_callV hF lkX2_48 (c_X2_mark X hX _ ht _ _ (by omega) (by omega) _ (by assumption)) (by decide +kernel : decode cX2_retainKeysOf 21 = .ok (.invokevirtual 48, 3)) (by decide) rfl rfl rfl rfl ht (Nat.le_of_ble_eq_true rfl) (fun v21 m21 h21 => ?_)
          obtain ⟨rfl, e21⟩ := h21
          obtain rfl := e21.symm
          refine g_iinc hF (by decide +kernel : decode cX2_retainKeysOf 24 = .ok (.iinc 2 1, 3)) rfl (by decide) ?_
          refine g_goto hF (tgt := 2) (by decide +kernel : decode cX2_retainKeysOf 27 = .ok (.goto (-25), 3)) (by decide) ?_
          exact ih (i + 1) _ _ (by omega) (by omega) (by omega)  (wl_mark ((if_pos z14).symm) (by omega) rfl (by omega))
  exact loop 258 0 (-1)  _ (by omega) (by omega) (by omega)  (wl_0 (fun z => if m u z = -2 then -2 else m t z) hm.2)
set_option maxHeartbeats 4000000 in
set_option maxRecDepth 100000 in
theorem c_X2_retainPairsOf (X : jX) (hX : jxok X) (t : Nat) (ht : t < 19) (u : Nat) (hu : u < 19) (hne : u ≠ t) (m : jM) (hm : tok m t) (hmu : rowok (m u)) : Con X yX2_retainPairsOf cX2_retainPairsOf 3 none 4 [vR 1 t, vR 1 u] m (fun o m' => o = none ∧ m' = tset m t (fun z => if m t z = m u z then m t z else -2)) := by
  refine Con.of hX (by decide) (Nat.le_of_ble_eq_true rfl) (fun F hF hQ => ?_)
  refine g_iconst hF (by decide +kernel : decode cX2_retainPairsOf 0 = .ok (.iconst (-1), 1)) ?_
  refine g_istore_n hF (by decide +kernel : decode cX2_retainPairsOf 1 = .ok (.istore_n 2, 1)) (by decide) ?_
  have loop : ∀ (n i : Nat) (k : Int) (mm : jM), i ≤ 257 → 258 ≤ i + n → k = i - 1 → mm = tset m t (upto (fun z => if m t z = m u z then m t z else -2) (m t) i) → jG F X mm 2 [(0, vR 1 t), (1, vR 1 u), (2, vI k)] [] := by
    intro n
    induction n with
    | zero => intro i k  mm h1 h2; exact absurd h2 (by omega)
    | succ n ih =>
      intro i k  mm h1 h2 hk  hmm
      obtain rfl := hmm.symm
      have hg : rowok (fun z => if m t z = m u z then m t z else -2) := (fun z h0 h3 => by have := hm.1 z h0 h3; have := hmu z h0 h3; show -2 ≤ (if m t z = m u z then m t z else -2) ∧ (if m t z = m u z then m t z else -2) ≤ 255; split <;> first | omega | exact tat_b hmu _)
      have hr : rowok (upto (fun z => if m t z = m u z then m t z else -2) (m t) i) := upto_ok hg hm.1 i
      have htk : tok (tset m t (upto (fun z => if m t z = m u z then m t z else -2) (m t) i)) t := tset_tok hr
      have htr : rowok (tset m t (upto (fun z => if m t z = m u z then m t z else -2) (m t) i) t) := htk.1
      have eu : tset m t (upto (fun z => if m t z = m u z then m t z else -2) (m t) i) u = m u := tset_ne hne (by omega)
      have hur : rowok (tset m t (upto (fun z => if m t z = m u z then m t z else -2) (m t) i) u) := by rw [eu]; exact hmu
      refine g_iload_n hF (by decide +kernel : decode cX2_retainPairsOf 2 = .ok (.iload_n 2, 1)) rfl ?_
      refine g_sipush hF (by decide +kernel : decode cX2_retainPairsOf 3 = .ok (.sipush 255, 3)) (by decide) ?_
      refine g_icmp_gt hF (tgt := 35) (by decide +kernel : decode cX2_retainPairsOf 6 = .ok (.if_icmp .gt 29, 3)) (by decide) (by omega) (by omega) (fun c6 => ?_) (fun c6 => ?_)
      · skip
        obtain rfl : i = 257 := by omega
        refine g_eqv (m' := tset m t (fun z => if m t z = m u z then m t z else -2)) (tset_eqv ht upto_all) ?_
        refine g_return hF hQ (by decide +kernel : decode cX2_retainPairsOf 35 = .ok (.return_, 1)) ?_
        exact ⟨rfl, rfl⟩
      · skip
        have q8 : tat (tset m t (upto (fun z => if m t z = m u z then m t z else -2) (m t) i) t) k = m t i := by rw [tat_i (f := tset m t (upto (fun z => if m t z = m u z then m t z else -2) (m t) i) t) hk (by omega) (by omega), tset_at, upto_at (Int.le_refl _)]
        have b8 := tat_b htr k
        have q9 : tat (tset m t (upto (fun z => if m t z = m u z then m t z else -2) (m t) i) u) k = m u i := by rw [tat_i (f := tset m t (upto (fun z => if m t z = m u z then m t z else -2) (m t) i) u) hk (by omega) (by omega), eu]
        have b9 := tat_b hur k
        refine g_aload_n hF (by decide +kernel : decode cX2_retainPairsOf 9 = .ok (.aload_n 0, 1)) rfl ?_
        refine g_iload_n hF (by decide +kernel : decode cX2_retainPairsOf 10 = .ok (.iload_n 2, 1)) rfl ?_
        refine g_callV hF lkX2_29 (c_X2_at X hX _ ht _ (by omega) _) (by decide +kernel : decode cX2_retainPairsOf 11 = .ok (.invokevirtual 29, 3)) (by decide) rfl rfl rfl rfl ht (Nat.le_of_ble_eq_true rfl) (fun v11 m11 h11 => ?_)
        obtain ⟨rfl, e11⟩ := h11
        obtain rfl := e11.symm
        refine g_aload_n hF (by decide +kernel : decode cX2_retainPairsOf 14 = .ok (.aload_n 1, 1)) rfl ?_
        refine g_iload_n hF (by decide +kernel : decode cX2_retainPairsOf 15 = .ok (.iload_n 2, 1)) rfl ?_
        refine g_callV hF lkX2_29 (c_X2_at X hX _ hu _ (by omega) _) (by decide +kernel : decode cX2_retainPairsOf 16 = .ok (.invokevirtual 29, 3)) (by decide) rfl rfl rfl rfl hu (Nat.le_of_ble_eq_true rfl) (fun v16 m16 h16 => ?_)
        obtain ⟨rfl, e16⟩ := h16
        obtain rfl := e16.symm
        refine g_icmp_eq hF (tgt := 29) (by decide +kernel : decode cX2_retainPairsOf 19 = .ok (.if_icmp .eq 10, 3)) (by decide) (by omega) (by omega) (fun c19 => ?_) (fun c19 => ?_)
        · skip
          refine g_iinc hF (by decide +kernel : decode cX2_retainPairsOf 29 = .ok (.iinc 2 1, 3)) rfl (by decide) ?_
          refine g_goto hF (tgt := 2) (by decide +kernel : decode cX2_retainPairsOf 32 = .ok (.goto (-30), 3)) (by decide) ?_
          exact ih (i + 1) _ _ (by omega) (by omega) (by omega)  (wl_skip (if_pos (by rw [q8, q9] at c19; exact c19)) rfl)
        · skip
          refine g_aload_n hF (by decide +kernel : decode cX2_retainPairsOf 22 = .ok (.aload_n 0, 1)) rfl ?_
          refine g_iload_n hF (by decide +kernel : decode cX2_retainPairsOf 23 = .ok (.iload_n 2, 1)) rfl ?_
          refine g_bipush hF (by decide +kernel : decode cX2_retainPairsOf 24 = .ok (.bipush (-2), 2)) (by decide) ?_
          refine g_callV hF lkX2_48 (c_X2_mark X hX _ ht _ _ (by omega) (by omega) _ (by assumption)) (by decide +kernel : decode cX2_retainPairsOf 26 = .ok (.invokevirtual 48, 3)) (by decide) rfl rfl rfl rfl ht (Nat.le_of_ble_eq_true rfl) (fun v26 m26 h26 => ?_)
          obtain ⟨rfl, e26⟩ := h26
          obtain rfl := e26.symm
          refine g_iinc hF (by decide +kernel : decode cX2_retainPairsOf 29 = .ok (.iinc 2 1, 3)) rfl (by decide) ?_
          refine g_goto hF (tgt := 2) (by decide +kernel : decode cX2_retainPairsOf 32 = .ok (.goto (-30), 3)) (by decide) ?_
          exact ih (i + 1) _ _ (by omega) (by omega) (by omega)  (wl_mark ((if_neg (by rw [q8, q9] at c19; exact c19)).symm) (by omega) rfl (by omega))
  exact loop 258 0 (-1)  _ (by omega) (by omega) (by omega)  (wl_0 (fun z => if m t z = m u z then m t z else -2) hm.2)
set_option maxHeartbeats 4000000 in
set_option maxRecDepth 100000 in
theorem c_X2_sendThrough (X : jX) (hX : jxok X) (t : Nat) (ht : t < 19) (u : Nat) (hu : u < 19) (hne : u ≠ t) (m : jM) (hm : tok m t) (hmu : rowok (m u)) : Con X yX2_sendThrough cX2_sendThrough 3 none 4 [vR 1 t, vR 1 u] m (fun o m' => o = none ∧ m' = tset m t (fun z => if m t z = -2 then -2 else tat (m u) (m t z))) := by
  refine Con.of hX (by decide) (Nat.le_of_ble_eq_true rfl) (fun F hF hQ => ?_)
  refine g_iconst hF (by decide +kernel : decode cX2_sendThrough 0 = .ok (.iconst (-1), 1)) ?_
  refine g_istore_n hF (by decide +kernel : decode cX2_sendThrough 1 = .ok (.istore_n 2, 1)) (by decide) ?_
  have loop : ∀ (n i : Nat) (k : Int) (mm : jM), i ≤ 257 → 258 ≤ i + n → k = i - 1 → mm = tset m t (upto (fun z => if m t z = -2 then -2 else tat (m u) (m t z)) (m t) i) → jG F X mm 2 [(0, vR 1 t), (1, vR 1 u), (2, vI k)] [] := by
    intro n
    induction n with
    | zero => intro i k  mm h1 h2; exact absurd h2 (by omega)
    | succ n ih =>
      intro i k  mm h1 h2 hk  hmm
      obtain rfl := hmm.symm
      have hg : rowok (fun z => if m t z = -2 then -2 else tat (m u) (m t z)) := (fun z h0 h3 => by have := hm.1 z h0 h3; have := hmu z h0 h3; show -2 ≤ (if m t z = -2 then -2 else tat (m u) (m t z)) ∧ (if m t z = -2 then -2 else tat (m u) (m t z)) ≤ 255; split <;> first | omega | exact tat_b hmu _)
      have hr : rowok (upto (fun z => if m t z = -2 then -2 else tat (m u) (m t z)) (m t) i) := upto_ok hg hm.1 i
      have htk : tok (tset m t (upto (fun z => if m t z = -2 then -2 else tat (m u) (m t z)) (m t) i)) t := tset_tok hr
      have htr : rowok (tset m t (upto (fun z => if m t z = -2 then -2 else tat (m u) (m t z)) (m t) i) t) := htk.1
      have eu : tset m t (upto (fun z => if m t z = -2 then -2 else tat (m u) (m t z)) (m t) i) u = m u := tset_ne hne (by omega)
      have hur : rowok (tset m t (upto (fun z => if m t z = -2 then -2 else tat (m u) (m t z)) (m t) i) u) := by rw [eu]; exact hmu
      refine g_iload_n hF (by decide +kernel : decode cX2_sendThrough 2 = .ok (.iload_n 2, 1)) rfl ?_
      refine g_sipush hF (by decide +kernel : decode cX2_sendThrough 3 = .ok (.sipush 255, 3)) (by decide) ?_
      refine g_icmp_gt hF (tgt := 37) (by decide +kernel : decode cX2_sendThrough 6 = .ok (.if_icmp .gt 31, 3)) (by decide) (by omega) (by omega) (fun c6 => ?_) (fun c6 => ?_)
      · skip
        obtain rfl : i = 257 := by omega
        refine g_eqv (m' := tset m t (fun z => if m t z = -2 then -2 else tat (m u) (m t z))) (tset_eqv ht upto_all) ?_
        refine g_return hF hQ (by decide +kernel : decode cX2_sendThrough 37 = .ok (.return_, 1)) ?_
        exact ⟨rfl, rfl⟩
      · skip
        have q8 : tat (tset m t (upto (fun z => if m t z = -2 then -2 else tat (m u) (m t z)) (m t) i) t) k = m t i := by rw [tat_i (f := tset m t (upto (fun z => if m t z = -2 then -2 else tat (m u) (m t z)) (m t) i) t) hk (by omega) (by omega), tset_at, upto_at (Int.le_refl _)]
        have b8 := tat_b htr k
        have q9 : tat (tset m t (upto (fun z => if m t z = -2 then -2 else tat (m u) (m t z)) (m t) i) u) k = m u i := by rw [tat_i (f := tset m t (upto (fun z => if m t z = -2 then -2 else tat (m u) (m t z)) (m t) i) u) hk (by omega) (by omega), eu]
        have b9 := tat_b hur k
        refine g_aload_n hF (by decide +kernel : decode cX2_sendThrough 9 = .ok (.aload_n 0, 1)) rfl ?_
        refine g_iload_n hF (by decide +kernel : decode cX2_sendThrough 10 = .ok (.iload_n 2, 1)) rfl ?_
        refine g_callV hF lkX2_39 (c_X2_isKey X hX _ ht _ (by omega) _ (by assumption)) (by decide +kernel : decode cX2_sendThrough 11 = .ok (.invokevirtual 39, 3)) (by decide) rfl rfl rfl rfl ht (Nat.le_of_ble_eq_true rfl) (fun v11 m11 h11 => ?_)
        obtain ⟨rfl, e11⟩ := h11
        obtain rfl := e11.symm
        refine g_if_eq hF (tgt := 31) (by decide +kernel : decode cX2_sendThrough 14 = .ok (.ifCond .eq 17, 3)) (by decide) (by split <;> omega) (fun c14 => ?_) (fun c14 => ?_)
        · skip
          have z14 : m t i = -2 := by rw [← q8]; exact Classical.byContradiction (fun q => by rw [if_neg q] at c14; omega)
          refine g_iinc hF (by decide +kernel : decode cX2_sendThrough 31 = .ok (.iinc 2 1, 3)) rfl (by decide) ?_
          refine g_goto hF (tgt := 2) (by decide +kernel : decode cX2_sendThrough 34 = .ok (.goto (-32), 3)) (by decide) ?_
          exact ih (i + 1) _ _ (by omega) (by omega) (by omega)  (wl_skip (by show (if m t i = -2 then -2 else tat (m u) (m t i)) = m t i; rw [if_pos z14, z14]) rfl)
        · skip
          have z14 : ¬ m t i = -2 := by rw [← q8]; exact fun q => c14 (if_pos q)
          have b28 := tat_b hur (tat (tset m t (upto (fun z => if m t z = -2 then -2 else tat (m u) (m t z)) (m t) i) t) k)
          refine g_aload_n hF (by decide +kernel : decode cX2_sendThrough 17 = .ok (.aload_n 0, 1)) rfl ?_
          refine g_iload_n hF (by decide +kernel : decode cX2_sendThrough 18 = .ok (.iload_n 2, 1)) rfl ?_
          refine g_aload_n hF (by decide +kernel : decode cX2_sendThrough 19 = .ok (.aload_n 1, 1)) rfl ?_
          refine g_aload_n hF (by decide +kernel : decode cX2_sendThrough 20 = .ok (.aload_n 0, 1)) rfl ?_
          refine g_iload_n hF (by decide +kernel : decode cX2_sendThrough 21 = .ok (.iload_n 2, 1)) rfl ?_
          refine g_callV hF lkX2_29 (c_X2_at X hX _ ht _ (by omega) _) (by decide +kernel : decode cX2_sendThrough 22 = .ok (.invokevirtual 29, 3)) (by decide) rfl rfl rfl rfl ht (Nat.le_of_ble_eq_true rfl) (fun v22 m22 h22 => ?_)
          obtain ⟨rfl, e22⟩ := h22
          obtain rfl := e22.symm
          refine g_callV hF lkX2_29 (c_X2_at X hX _ hu _ (by omega) _) (by decide +kernel : decode cX2_sendThrough 25 = .ok (.invokevirtual 29, 3)) (by decide) rfl rfl rfl rfl hu (Nat.le_of_ble_eq_true rfl) (fun v25 m25 h25 => ?_)
          obtain ⟨rfl, e25⟩ := h25
          obtain rfl := e25.symm
          refine g_callV hF lkX2_48 (c_X2_mark X hX _ ht _ _ (by omega) (by omega) _ (by assumption)) (by decide +kernel : decode cX2_sendThrough 28 = .ok (.invokevirtual 48, 3)) (by decide) rfl rfl rfl rfl ht (Nat.le_of_ble_eq_true rfl) (fun v28 m28 h28 => ?_)
          obtain ⟨rfl, e28⟩ := h28
          obtain rfl := e28.symm
          refine g_iinc hF (by decide +kernel : decode cX2_sendThrough 31 = .ok (.iinc 2 1, 3)) rfl (by decide) ?_
          refine g_goto hF (tgt := 2) (by decide +kernel : decode cX2_sendThrough 34 = .ok (.goto (-32), 3)) (by decide) ?_
          exact ih (i + 1) _ _ (by omega) (by omega) (by omega)  (wl_mark (by rw [eu, q8]; exact (if_neg z14).symm) (by omega) rfl (by omega))
  exact loop 258 0 (-1)  _ (by omega) (by omega) (by omega)  (wl_0 (fun z => if m t z = -2 then -2 else tat (m u) (m t z)) hm.2)
set_option maxHeartbeats 4000000 in
set_option maxRecDepth 100000 in
theorem c_X2_addToAll (X : jX) (hX : jxok X) (t : Nat) (ht : t < 19) (by_ : Int) (hby : 0 ≤ by_ ∧ by_ ≤ 255) (m : jM) (hm : tok m t) : Con X yX2_addToAll cX2_addToAll 5 (some .int) 4 [vR 1 t, vI by_] m (fun o m' => o = some (vI (sumN (fun z => if m t z < 0 then 0 else if wr (m t z + by_) = m t z then 0 else 1) 257)) ∧ m' = tset m t (fun z => if m t z < 0 then m t z else wr (m t z + by_))) := by
  refine Con.of hX (by decide) (Nat.le_of_ble_eq_true rfl) (fun F hF hQ => ?_)
  refine g_iconst hF (by decide +kernel : decode cX2_addToAll 0 = .ok (.iconst 0, 1)) ?_
  refine g_istore_n hF (by decide +kernel : decode cX2_addToAll 1 = .ok (.istore_n 2, 1)) (by decide) ?_
  refine g_iconst hF (by decide +kernel : decode cX2_addToAll 2 = .ok (.iconst (-1), 1)) ?_
  refine g_istore_n hF (by decide +kernel : decode cX2_addToAll 3 = .ok (.istore_n 3, 1)) (by decide) ?_
  have loop : ∀ (n i : Nat) (k a : Int) (mm : jM), i ≤ 257 → 258 ≤ i + n → k = i - 1 → a = sumN (fun z => if m t z < 0 then 0 else if wr (m t z + by_) = m t z then 0 else 1) i → mm = tset m t (upto (fun z => if m t z < 0 then m t z else wr (m t z + by_)) (m t) i) → jG F X mm 4 [(0, vR 1 t), (1, vI by_), (2, vI a), (3, vI k)] [] := by
    intro n
    induction n with
    | zero => intro i k a mm h1 h2; exact absurd h2 (by omega)
    | succ n ih =>
      intro i k a mm h1 h2 hk ha hmm
      obtain rfl := hmm.symm
      have hg : rowok (fun z => if m t z < 0 then m t z else wr (m t z + by_)) := by
        intro z h0 h3
        have := hm.1 z h0 h3
        show -2 ≤ (if m t z < 0 then m t z else wr (m t z + by_)) ∧ (if m t z < 0 then m t z else wr (m t z + by_)) ≤ 255
        unfold wr
        split
        · omega
        · split <;> omega
      have hr : rowok (upto (fun z => if m t z < 0 then m t z else wr (m t z + by_)) (m t) i) := upto_ok hg hm.1 i
      have htk : tok (tset m t (upto (fun z => if m t z < 0 then m t z else wr (m t z + by_)) (m t) i)) t := tset_tok hr
      have htr : rowok (tset m t (upto (fun z => if m t z < 0 then m t z else wr (m t z + by_)) (m t) i) t) := htk.1
      refine g_iload_n hF (by decide +kernel : decode cX2_addToAll 4 = .ok (.iload_n 3, 1)) rfl ?_
      refine g_sipush hF (by decide +kernel : decode cX2_addToAll 5 = .ok (.sipush 255, 3)) (by decide) ?_
      refine g_icmp_gt hF (tgt := 67) (by decide +kernel : decode cX2_addToAll 8 = .ok (.if_icmp .gt 59, 3)) (by decide) (by omega) (by omega) (fun c8 => ?_) (fun c8 => ?_)
      · skip
        obtain rfl : i = 257 := by omega
        refine g_eqv (m' := tset m t (fun z => if m t z < 0 then m t z else wr (m t z + by_))) (tset_eqv ht upto_all) ?_
        refine g_iload_n hF (by decide +kernel : decode cX2_addToAll 67 = .ok (.iload_n 2, 1)) rfl ?_
        refine g_ireturn hF hQ (by decide +kernel : decode cX2_addToAll 68 = .ok (.ireturn, 1)) ?_
        exact ⟨by rw [ha], rfl⟩
      · skip
        have q8 : tat (tset m t (upto (fun z => if m t z < 0 then m t z else wr (m t z + by_)) (m t) i) t) k = m t i := by rw [tat_i (f := tset m t (upto (fun z => if m t z < 0 then m t z else wr (m t z + by_)) (m t) i) t) hk (by omega) (by omega), tset_at, upto_at (Int.le_refl _)]
        have b8 := tat_b htr k
        refine g_aload_n hF (by decide +kernel : decode cX2_addToAll 11 = .ok (.aload_n 0, 1)) rfl ?_
        refine g_iload_n hF (by decide +kernel : decode cX2_addToAll 12 = .ok (.iload_n 3, 1)) rfl ?_
        refine g_callV hF lkX2_29 (c_X2_at X hX _ ht _ (by omega) _) (by decide +kernel : decode cX2_addToAll 13 = .ok (.invokevirtual 29, 3)) (by decide) rfl rfl rfl rfl ht (Nat.le_of_ble_eq_true rfl) (fun v13 m13 h13 => ?_)
        obtain ⟨rfl, e13⟩ := h13
        obtain rfl := e13.symm
        refine g_istore hF (by decide +kernel : decode cX2_addToAll 16 = .ok (.istore 4, 2)) (by decide) ?_
        refine g_iload hF (by decide +kernel : decode cX2_addToAll 18 = .ok (.iload 4, 2)) rfl ?_
        refine g_bipush hF (by decide +kernel : decode cX2_addToAll 20 = .ok (.bipush (-2), 2)) (by decide) ?_
        refine g_icmp_eq hF (tgt := 61) (by decide +kernel : decode cX2_addToAll 22 = .ok (.if_icmp .eq 39, 3)) (by decide) (by omega) (by omega) (fun c22 => ?_) (fun c22 => ?_)
        · skip
          refine g_iinc hF (by decide +kernel : decode cX2_addToAll 61 = .ok (.iinc 3 1, 3)) rfl (by decide) ?_
          refine g_goto hF (tgt := 4) (by decide +kernel : decode cX2_addToAll 64 = .ok (.goto (-60), 3)) (by decide) ?_
          refine g_take 4 ?_
          exact ih (i + 1) _ _ _ (by omega) (by omega) (by omega) (by rw [ha, sumN_s, if_pos (by omega)]; omega) (wl_skip (if_pos (by omega)) rfl)
        · skip
          refine g_iload hF (by decide +kernel : decode cX2_addToAll 25 = .ok (.iload 4, 2)) rfl ?_
          refine g_iconst hF (by decide +kernel : decode cX2_addToAll 27 = .ok (.iconst (-1), 1)) ?_
          refine g_icmp_eq hF (tgt := 61) (by decide +kernel : decode cX2_addToAll 28 = .ok (.if_icmp .eq 33, 3)) (by decide) (by omega) (by omega) (fun c28 => ?_) (fun c28 => ?_)
          · skip
            refine g_iinc hF (by decide +kernel : decode cX2_addToAll 61 = .ok (.iinc 3 1, 3)) rfl (by decide) ?_
            refine g_goto hF (tgt := 4) (by decide +kernel : decode cX2_addToAll 64 = .ok (.goto (-60), 3)) (by decide) ?_
            refine g_take 4 ?_
            exact ih (i + 1) _ _ _ (by omega) (by omega) (by omega) (by rw [ha, sumN_s, if_pos (by omega)]; omega) (wl_skip (if_pos (by omega)) rfl)
          · skip
            refine g_aload_n hF (by decide +kernel : decode cX2_addToAll 31 = .ok (.aload_n 0, 1)) rfl ?_
            refine g_iload_n hF (by decide +kernel : decode cX2_addToAll 32 = .ok (.iload_n 3, 1)) rfl ?_
            refine g_iload hF (by decide +kernel : decode cX2_addToAll 33 = .ok (.iload 4, 2)) rfl ?_
            refine g_iload_n hF (by decide +kernel : decode cX2_addToAll 35 = .ok (.iload_n 1, 1)) rfl ?_
            refine g_iadd hF (by decide +kernel : decode cX2_addToAll 36 = .ok (.iadd, 1)) ?_
            refine g_callN hF lkX2_52 (c_X4_wrapped X hX _ (by omega) _) (by decide +kernel : decode cX2_addToAll 37 = .ok (.invokestatic 52, 3)) (by decide) rfl rfl (Nat.le_of_ble_eq_true rfl) (fun v37 m37 h37 => ?_)
            obtain ⟨rfl, e37⟩ := h37
            obtain rfl := e37.symm
            have hw := wr_b (a := tat (tset m t (upto (fun z => if m t z < 0 then m t z else wr (m t z + by_)) (m t) i) t) k + by_) (by omega)
            refine g_callV hF lkX2_48 (c_X2_mark X hX _ ht _ _ (by omega) (by omega) _ (by assumption)) (by decide +kernel : decode cX2_addToAll 40 = .ok (.invokevirtual 48, 3)) (by decide) rfl rfl rfl rfl ht (Nat.le_of_ble_eq_true rfl) (fun v40 m40 h40 => ?_)
            obtain ⟨rfl, e40⟩ := h40
            obtain rfl := e40.symm
            refine jG_m (wl_mark (by rw [q8, if_neg (show ¬ m t i < 0 by omega)]) (by omega) (show i + 1 = i + 1 from rfl) (by omega)) ?_
            have hr1 : rowok (tset m t (upto (fun z => if m t z < 0 then m t z else wr (m t z + by_)) (m t) ((i + 1 : Nat) : Int)) t) := (tset_tok (upto_ok hg hm.1 _)).1
            have q46 : tat (tset m t (upto (fun z => if m t z < 0 then m t z else wr (m t z + by_)) (m t) ((i + 1 : Nat) : Int)) t) k = wr (m t i + by_) := by
              rw [tat_i (f := tset m t (upto (fun z => if m t z < 0 then m t z else wr (m t z + by_)) (m t) ((i + 1 : Nat) : Int)) t) hk (by omega) (by omega), tset_at, upto_in (by omega) (by omega)]
              exact if_neg (by omega)
            have b46 := tat_b hr1 k
            refine g_iload_n hF (by decide +kernel : decode cX2_addToAll 43 = .ok (.iload_n 2, 1)) rfl ?_
            refine g_aload_n hF (by decide +kernel : decode cX2_addToAll 44 = .ok (.aload_n 0, 1)) rfl ?_
            refine g_iload_n hF (by decide +kernel : decode cX2_addToAll 45 = .ok (.iload_n 3, 1)) rfl ?_
            refine g_callV hF lkX2_29 (c_X2_at X hX _ ht _ (by omega) _) (by decide +kernel : decode cX2_addToAll 46 = .ok (.invokevirtual 29, 3)) (by decide) rfl rfl rfl rfl ht (Nat.le_of_ble_eq_true rfl) (fun v46 m46 h46 => ?_)
            obtain ⟨rfl, e46⟩ := h46
            obtain rfl := e46.symm
            refine g_iload hF (by decide +kernel : decode cX2_addToAll 49 = .ok (.iload 4, 2)) rfl ?_
            refine g_icmp_ne hF (tgt := 58) (by decide +kernel : decode cX2_addToAll 51 = .ok (.if_icmp .ne 7, 3)) (by decide) (by omega) (by omega) (fun c51 => ?_) (fun c51 => ?_)
            · skip
              refine g_iconst hF (by decide +kernel : decode cX2_addToAll 58 = .ok (.iconst 1, 1)) ?_
              refine g_iadd hF (by decide +kernel : decode cX2_addToAll 59 = .ok (.iadd, 1)) ?_
              refine g_istore_n hF (by decide +kernel : decode cX2_addToAll 60 = .ok (.istore_n 2, 1)) (by decide) ?_
              refine g_iinc hF (by decide +kernel : decode cX2_addToAll 61 = .ok (.iinc 3 1, 3)) rfl (by decide) ?_
              refine g_goto hF (tgt := 4) (by decide +kernel : decode cX2_addToAll 64 = .ok (.goto (-60), 3)) (by decide) ?_
              refine g_take 4 ?_
              exact ih (i + 1) _ _ _ (by omega) (by omega) (by omega) (by rw [ha, sumN_s, if_neg (by omega), if_neg (by rw [← q46]; omega)]) rfl
            · skip
              refine g_iconst hF (by decide +kernel : decode cX2_addToAll 54 = .ok (.iconst 0, 1)) ?_
              refine g_goto hF (tgt := 59) (by decide +kernel : decode cX2_addToAll 55 = .ok (.goto 4, 3)) (by decide) ?_
              refine g_iadd hF (by decide +kernel : decode cX2_addToAll 59 = .ok (.iadd, 1)) ?_
              refine g_istore_n hF (by decide +kernel : decode cX2_addToAll 60 = .ok (.istore_n 2, 1)) (by decide) ?_
              refine g_iinc hF (by decide +kernel : decode cX2_addToAll 61 = .ok (.iinc 3 1, 3)) rfl (by decide) ?_
              refine g_goto hF (tgt := 4) (by decide +kernel : decode cX2_addToAll 64 = .ok (.goto (-60), 3)) (by decide) ?_
              refine g_take 4 ?_
              exact ih (i + 1) _ _ _ (by omega) (by omega) (by omega) (by rw [ha, sumN_s, if_neg (by omega), if_pos (by rw [← q46]; omega)]) rfl
  exact loop 258 0 (-1) 0 _ (by omega) (by omega) (by omega) (sumN_0 _).symm (wl_0 (fun z => if m t z < 0 then m t z else wr (m t z + by_)) hm.2)
set_option maxHeartbeats 4000000 in
set_option maxRecDepth 100000 in
theorem c_X2_becomeTurned (X : jX) (hX : jxok X) (t : Nat) (ht : t < 19) (u : Nat) (hu : u < 19) (hne : u ≠ t) (m : jM) (hmu : rowok (m u)) : Con X yX2_becomeTurned cX2_becomeTurned 3 none 4 [vR 1 t, vR 1 u] m (fun o m' => o = none ∧ m' = tset m t (turnN (m u) 257)) := by
  refine Con.of hX (by decide) (Nat.le_of_ble_eq_true rfl) (fun F hF hQ => ?_)
  refine g_aload_n hF (by decide +kernel : decode cX2_becomeTurned 0 = .ok (.aload_n 0, 1)) rfl ?_
  refine g_callV hF lkX2_55 (c_X2_wipe X hX _ ht _) (by decide +kernel : decode cX2_becomeTurned 1 = .ok (.invokevirtual 55, 3)) (by decide) rfl rfl rfl rfl ht (Nat.le_of_ble_eq_true rfl) (fun v1 m1 h1 => ?_)
  obtain ⟨rfl, e1⟩ := h1
  obtain rfl := e1.symm
  refine g_iconst hF (by decide +kernel : decode cX2_becomeTurned 4 = .ok (.iconst (-1), 1)) ?_
  refine g_istore_n hF (by decide +kernel : decode cX2_becomeTurned 5 = .ok (.istore_n 2, 1)) (by decide) ?_
  have loop : ∀ (n i : Nat) (k : Int) (mm : jM), i ≤ 257 → 258 ≤ i + n → k = i - 1 → mm = tset m t (turnN (m u) i) → jG F X mm 6 [(0, vR 1 t), (1, vR 1 u), (2, vI k)] [] := by
    intro n
    induction n with
    | zero => intro i k mm h1 h2; exact absurd h2 (by omega)
    | succ n ih =>
      intro i k mm h1 h2 hk hmm
      obtain rfl := hmm.symm
      have htk : tok (tset m t (turnN (m u) i)) t := tset_tok (turnN_ok i h1)
      have eu : tset m t (turnN (m u) i) u = m u := tset_ne hne (by omega)
      have hur : rowok (tset m t (turnN (m u) i) u) := by rw [eu]; exact hmu
      refine g_iload_n hF (by decide +kernel : decode cX2_becomeTurned 6 = .ok (.iload_n 2, 1)) rfl ?_
      refine g_sipush hF (by decide +kernel : decode cX2_becomeTurned 7 = .ok (.sipush 255, 3)) (by decide) ?_
      refine g_icmp_gt hF (tgt := 37) (by decide +kernel : decode cX2_becomeTurned 10 = .ok (.if_icmp .gt 27, 3)) (by decide) (by omega) (by omega) (fun c10 => ?_) (fun c10 => ?_)
      · skip
        refine g_return hF hQ (by decide +kernel : decode cX2_becomeTurned 37 = .ok (.return_, 1)) ?_
        exact ⟨rfl, by rw [show i = 257 by omega]⟩
      · skip
        have q9 : tat (tset m t (turnN (m u) i) u) k = m u i := by rw [tat_i (f := tset m t (turnN (m u) i) u) hk (by omega) (by omega), eu]
        have b9 := tat_b hur k
        refine g_aload_n hF (by decide +kernel : decode cX2_becomeTurned 13 = .ok (.aload_n 1, 1)) rfl ?_
        refine g_iload_n hF (by decide +kernel : decode cX2_becomeTurned 14 = .ok (.iload_n 2, 1)) rfl ?_
        refine g_callV hF lkX2_39 (c_X2_isKey X hX _ hu _ (by omega) _ (by assumption)) (by decide +kernel : decode cX2_becomeTurned 15 = .ok (.invokevirtual 39, 3)) (by decide) rfl rfl rfl rfl hu (Nat.le_of_ble_eq_true rfl) (fun v15 m15 h15 => ?_)
        obtain ⟨rfl, e15⟩ := h15
        obtain rfl := e15.symm
        refine g_if_eq hF (tgt := 31) (by decide +kernel : decode cX2_becomeTurned 18 = .ok (.ifCond .eq 13, 3)) (by decide) (by split <;> omega) (fun c18 => ?_) (fun c18 => ?_)
        · skip
          have z18 : m u i = -2 := by rw [← q9]; exact Classical.byContradiction (fun q => by rw [if_neg q] at c18; omega)
          refine g_iinc hF (by decide +kernel : decode cX2_becomeTurned 31 = .ok (.iinc 2 1, 3)) rfl (by decide) ?_
          refine g_goto hF (tgt := 6) (by decide +kernel : decode cX2_becomeTurned 34 = .ok (.goto (-28), 3)) (by decide) ?_
          exact ih (i + 1) _ _ (by omega) (by omega) (by omega) (by rw [turnN_skip z18])
        · skip
          have z18 : ¬ m u i = -2 := by rw [← q9]; exact fun q => c18 (if_pos q)
          refine g_aload_n hF (by decide +kernel : decode cX2_becomeTurned 21 = .ok (.aload_n 0, 1)) rfl ?_
          refine g_aload_n hF (by decide +kernel : decode cX2_becomeTurned 22 = .ok (.aload_n 1, 1)) rfl ?_
          refine g_iload_n hF (by decide +kernel : decode cX2_becomeTurned 23 = .ok (.iload_n 2, 1)) rfl ?_
          refine g_callV hF lkX2_29 (c_X2_at X hX _ hu _ (by omega) _) (by decide +kernel : decode cX2_becomeTurned 24 = .ok (.invokevirtual 29, 3)) (by decide) rfl rfl rfl rfl hu (Nat.le_of_ble_eq_true rfl) (fun v24 m24 h24 => ?_)
          obtain ⟨rfl, e24⟩ := h24
          obtain rfl := e24.symm
          refine g_iload_n hF (by decide +kernel : decode cX2_becomeTurned 27 = .ok (.iload_n 2, 1)) rfl ?_
          refine g_callV hF lkX2_48 (c_X2_mark X hX _ ht _ _ (by omega) (by omega) _ (by assumption)) (by decide +kernel : decode cX2_becomeTurned 28 = .ok (.invokevirtual 48, 3)) (by decide) rfl rfl rfl rfl ht (Nat.le_of_ble_eq_true rfl) (fun v28 m28 h28 => ?_)
          obtain ⟨rfl, e28⟩ := h28
          obtain rfl := e28.symm
          refine g_iinc hF (by decide +kernel : decode cX2_becomeTurned 31 = .ok (.iinc 2 1, 3)) rfl (by decide) ?_
          refine g_goto hF (tgt := 6) (by decide +kernel : decode cX2_becomeTurned 34 = .ok (.goto (-28), 3)) (by decide) ?_
          exact ih (i + 1) _ _ (by omega) (by omega) (by omega) (turnN_mark z18 q9 hk)
  exact loop 258 0 (-1) _ (by omega) (by omega) (by omega) (by rw [turnN_0])
set_option maxHeartbeats 4000000 in
set_option maxRecDepth 100000 in
theorem c_X2_becomeSelves (X : jX) (hX : jxok X) (t : Nat) (ht : t < 19) (u : Nat) (hu : u < 19) (hne : u ≠ t) (m : jM) (hmu : rowok (m u)) : Con X yX2_becomeSelves cX2_becomeSelves 3 none 4 [vR 1 t, vR 1 u] m (fun o m' => o = none ∧ m' = tset m t (fun z => if m u z = -2 then -2 else z - 1)) := by
  refine Con.of hX (by decide) (Nat.le_of_ble_eq_true rfl) (fun F hF hQ => ?_)
  refine g_aload_n hF (by decide +kernel : decode cX2_becomeSelves 0 = .ok (.aload_n 0, 1)) rfl ?_
  refine g_callV hF lkX2_55 (c_X2_wipe X hX _ ht _) (by decide +kernel : decode cX2_becomeSelves 1 = .ok (.invokevirtual 55, 3)) (by decide) rfl rfl rfl rfl ht (Nat.le_of_ble_eq_true rfl) (fun v1 m1 h1 => ?_)
  obtain ⟨rfl, e1⟩ := h1
  obtain rfl := e1.symm
  refine g_iconst hF (by decide +kernel : decode cX2_becomeSelves 4 = .ok (.iconst (-1), 1)) ?_
  refine g_istore_n hF (by decide +kernel : decode cX2_becomeSelves 5 = .ok (.istore_n 2, 1)) (by decide) ?_
  have loop : ∀ (n i : Nat) (k : Int) (mm : jM), i ≤ 257 → 258 ≤ i + n → k = i - 1 → mm = tset m t (upto (fun z => if m u z = -2 then -2 else z - 1) (fun _ => -2) i) → jG F X mm 6 [(0, vR 1 t), (1, vR 1 u), (2, vI k)] [] := by
    intro n
    induction n with
    | zero => intro i k  mm h1 h2; exact absurd h2 (by omega)
    | succ n ih =>
      intro i k  mm h1 h2 hk  hmm
      obtain rfl := hmm.symm
      have hg : rowok (fun z => if m u z = -2 then -2 else z - 1) := (fun z h0 h3 => by show -2 ≤ (if m u z = -2 then -2 else z - 1) ∧ (if m u z = -2 then -2 else z - 1) ≤ 255; split <;> omega)
      have hr : rowok (upto (fun z => if m u z = -2 then -2 else z - 1) (fun _ => -2) i) := upto_ok hg (fun z _ _ => ⟨(by decide : (-2 : Int) ≤ -2), (by decide : (-2 : Int) ≤ 255)⟩) i
      have htk : tok (tset m t (upto (fun z => if m u z = -2 then -2 else z - 1) (fun _ => -2) i)) t := tset_tok hr
      have htr : rowok (tset m t (upto (fun z => if m u z = -2 then -2 else z - 1) (fun _ => -2) i) t) := htk.1
      have eu : tset m t (upto (fun z => if m u z = -2 then -2 else z - 1) (fun _ => -2) i) u = m u := tset_ne hne (by omega)
      have hur : rowok (tset m t (upto (fun z => if m u z = -2 then -2 else z - 1) (fun _ => -2) i) u) := by rw [eu]; exact hmu
      refine g_iload_n hF (by decide +kernel : decode cX2_becomeSelves 6 = .ok (.iload_n 2, 1)) rfl ?_
      refine g_sipush hF (by decide +kernel : decode cX2_becomeSelves 7 = .ok (.sipush 255, 3)) (by decide) ?_
      refine g_icmp_gt hF (tgt := 33) (by decide +kernel : decode cX2_becomeSelves 10 = .ok (.if_icmp .gt 23, 3)) (by decide) (by omega) (by omega) (fun c10 => ?_) (fun c10 => ?_)
      · skip
        obtain rfl : i = 257 := by omega
        refine g_eqv (m' := tset m t (fun z => if m u z = -2 then -2 else z - 1)) (tset_eqv ht upto_all) ?_
        refine g_return hF hQ (by decide +kernel : decode cX2_becomeSelves 33 = .ok (.return_, 1)) ?_
        exact ⟨rfl, rfl⟩
      · skip
        have q8 : tat (tset m t (upto (fun z => if m u z = -2 then -2 else z - 1) (fun _ => -2) i) t) k = (fun _ => -2) i := by rw [tat_i (f := tset m t (upto (fun z => if m u z = -2 then -2 else z - 1) (fun _ => -2) i) t) hk (by omega) (by omega), tset_at, upto_at (Int.le_refl _)]
        have b8 := tat_b htr k
        have q9 : tat (tset m t (upto (fun z => if m u z = -2 then -2 else z - 1) (fun _ => -2) i) u) k = m u i := by rw [tat_i (f := tset m t (upto (fun z => if m u z = -2 then -2 else z - 1) (fun _ => -2) i) u) hk (by omega) (by omega), eu]
        have b9 := tat_b hur k
        refine g_aload_n hF (by decide +kernel : decode cX2_becomeSelves 13 = .ok (.aload_n 1, 1)) rfl ?_
        refine g_iload_n hF (by decide +kernel : decode cX2_becomeSelves 14 = .ok (.iload_n 2, 1)) rfl ?_
        refine g_callV hF lkX2_39 (c_X2_isKey X hX _ hu _ (by omega) _ (by assumption)) (by decide +kernel : decode cX2_becomeSelves 15 = .ok (.invokevirtual 39, 3)) (by decide) rfl rfl rfl rfl hu (Nat.le_of_ble_eq_true rfl) (fun v15 m15 h15 => ?_)
        obtain ⟨rfl, e15⟩ := h15
        obtain rfl := e15.symm
        refine g_if_eq hF (tgt := 27) (by decide +kernel : decode cX2_becomeSelves 18 = .ok (.ifCond .eq 9, 3)) (by decide) (by split <;> omega) (fun c18 => ?_) (fun c18 => ?_)
        · skip
          have z18 : m u i = -2 := by rw [← q9]; exact Classical.byContradiction (fun q => by rw [if_neg q] at c18; omega)
          refine g_iinc hF (by decide +kernel : decode cX2_becomeSelves 27 = .ok (.iinc 2 1, 3)) rfl (by decide) ?_
          refine g_goto hF (tgt := 6) (by decide +kernel : decode cX2_becomeSelves 30 = .ok (.goto (-24), 3)) (by decide) ?_
          exact ih (i + 1) _ _ (by omega) (by omega) (by omega)  (wl_skip (if_pos z18) rfl)
        · skip
          have z18 : ¬ m u i = -2 := by rw [← q9]; exact fun q => c18 (if_pos q)
          refine g_aload_n hF (by decide +kernel : decode cX2_becomeSelves 21 = .ok (.aload_n 0, 1)) rfl ?_
          refine g_iload_n hF (by decide +kernel : decode cX2_becomeSelves 22 = .ok (.iload_n 2, 1)) rfl ?_
          refine g_iload_n hF (by decide +kernel : decode cX2_becomeSelves 23 = .ok (.iload_n 2, 1)) rfl ?_
          refine g_callV hF lkX2_48 (c_X2_mark X hX _ ht _ _ (by omega) (by omega) _ (by assumption)) (by decide +kernel : decode cX2_becomeSelves 24 = .ok (.invokevirtual 48, 3)) (by decide) rfl rfl rfl rfl ht (Nat.le_of_ble_eq_true rfl) (fun v24 m24 h24 => ?_)
          obtain ⟨rfl, e24⟩ := h24
          obtain rfl := e24.symm
          refine g_iinc hF (by decide +kernel : decode cX2_becomeSelves 27 = .ok (.iinc 2 1, 3)) rfl (by decide) ?_
          refine g_goto hF (tgt := 6) (by decide +kernel : decode cX2_becomeSelves 30 = .ok (.goto (-24), 3)) (by decide) ?_
          exact ih (i + 1) _ _ (by omega) (by omega) (by omega)  (wl_mark (by rw [hk]; exact (if_neg z18).symm) (by omega) rfl (by omega))
  exact loop 258 0 (-1) _ (by omega) (by omega) (by omega) (wl_0w (fun z => if m u z = -2 then -2 else z - 1) _)
set_option maxHeartbeats 4000000 in
set_option maxRecDepth 100000 in
theorem c_X2_staysInside (X : jX) (hX : jxok X) (t : Nat) (ht : t < 19) (m : jM) (hm : rowok (m t)) : Con X yX2_staysInside cX2_staysInside 2 (some .boolean) 4 [vR 1 t] m (fun o m' => o = some (vI (bI (inside (m t)))) ∧ m' = m) := by
  refine Con.of hX (by decide) (Nat.le_of_ble_eq_true rfl) (fun F hF hQ => ?_)
  refine g_iconst hF (by decide +kernel : decode cX2_staysInside 0 = .ok (.iconst (-1), 1)) ?_
  refine g_istore_n hF (by decide +kernel : decode cX2_staysInside 1 = .ok (.istore_n 1, 1)) (by decide) ?_
  have loop : ∀ (n i : Nat) (k : Int), i ≤ 257 → 258 ≤ i + n → k = i - 1 → (∀ z : Int, 0 ≤ z → z < i → (m t z = -2 ∨ tat (m t) (m t z) ≠ -2)) → jG F X m 2 [(0, vR 1 t), (1, vI k)] [] := by
    intro n
    induction n with
    | zero => intro i k h1 h2; exact absurd h2 (by omega)
    | succ n ih =>
      intro i k h1 h2 hk hi
      refine g_iload_n hF (by decide +kernel : decode cX2_staysInside 2 = .ok (.iload_n 1, 1)) rfl ?_
      refine g_sipush hF (by decide +kernel : decode cX2_staysInside 3 = .ok (.sipush 255, 3)) (by decide) ?_
      refine g_icmp_gt hF (tgt := 37) (by decide +kernel : decode cX2_staysInside 6 = .ok (.if_icmp .gt 31, 3)) (by decide) (by omega) (by omega) (fun c6 => ?_) (fun c6 => ?_)
      · skip
        refine g_iconst hF (by decide +kernel : decode cX2_staysInside 37 = .ok (.iconst 1, 1)) ?_
        refine g_zreturn hF hQ (by decide +kernel : decode cX2_staysInside 38 = .ok (.ireturn, 1)) (by first | exact Or.inl rfl | exact Or.inr rfl | omega) ?_
        exact ⟨by rw [bI_t (show inside (m t) from fun z h8 h9 => hi z h8 (by omega))], rfl⟩
      · skip
        have q8 := tat_i (f := m t) hk (by omega) (by omega)
        have b8 := tat_b hm k
        refine g_aload_n hF (by decide +kernel : decode cX2_staysInside 9 = .ok (.aload_n 0, 1)) rfl ?_
        refine g_iload_n hF (by decide +kernel : decode cX2_staysInside 10 = .ok (.iload_n 1, 1)) rfl ?_
        refine g_callV hF lkX2_39 (c_X2_isKey X hX _ ht _ (by omega) _ (by assumption)) (by decide +kernel : decode cX2_staysInside 11 = .ok (.invokevirtual 39, 3)) (by decide) rfl rfl rfl rfl ht (Nat.le_of_ble_eq_true rfl) (fun v11 m11 h11 => ?_)
        obtain ⟨rfl, e11⟩ := h11
        obtain rfl := e11.symm
        refine g_if_eq hF (tgt := 31) (by decide +kernel : decode cX2_staysInside 14 = .ok (.ifCond .eq 17, 3)) (by decide) (by split <;> omega) (fun c14 => ?_) (fun c14 => ?_)
        · skip
          have z14 : m t i = -2 := by rw [← q8]; exact Classical.byContradiction (fun q => by rw [if_neg q] at c14; omega)
          refine g_iinc hF (by decide +kernel : decode cX2_staysInside 31 = .ok (.iinc 1 1, 3)) rfl (by decide) ?_
          refine g_goto hF (tgt := 2) (by decide +kernel : decode cX2_staysInside 34 = .ok (.goto (-32), 3)) (by decide) ?_
          exact ih (i + 1) _ (by omega) (by omega) (by omega) (fun z h8 h9 => by
            by_cases e : z = i
            · rw [e]; exact Or.inl z14
            · exact hi z h8 (by omega))
        · skip
          have z14 : ¬ m t i = -2 := by rw [← q8]; exact fun q => c14 (if_pos q)
          refine g_aload_n hF (by decide +kernel : decode cX2_staysInside 17 = .ok (.aload_n 0, 1)) rfl ?_
          refine g_aload_n hF (by decide +kernel : decode cX2_staysInside 18 = .ok (.aload_n 0, 1)) rfl ?_
          refine g_iload_n hF (by decide +kernel : decode cX2_staysInside 19 = .ok (.iload_n 1, 1)) rfl ?_
          refine g_callV hF lkX2_29 (c_X2_at X hX _ ht _ (by omega) _) (by decide +kernel : decode cX2_staysInside 20 = .ok (.invokevirtual 29, 3)) (by decide) rfl rfl rfl rfl ht (Nat.le_of_ble_eq_true rfl) (fun v20 m20 h20 => ?_)
          obtain ⟨rfl, e20⟩ := h20
          obtain rfl := e20.symm
          refine g_callV hF lkX2_39 (c_X2_isKey X hX _ ht _ (by omega) _ (by assumption)) (by decide +kernel : decode cX2_staysInside 23 = .ok (.invokevirtual 39, 3)) (by decide) rfl rfl rfl rfl ht (Nat.le_of_ble_eq_true rfl) (fun v23 m23 h23 => ?_)
          obtain ⟨rfl, e23⟩ := h23
          obtain rfl := e23.symm
          refine g_if_ne hF (tgt := 31) (by decide +kernel : decode cX2_staysInside 26 = .ok (.ifCond .ne 5, 3)) (by decide) (by split <;> omega) (fun c26 => ?_) (fun c26 => ?_)
          · skip
            have z26 : ¬ tat (m t) (m t i) = -2 := by rw [← q8]; exact fun q => c26 (if_pos q)
            refine g_iinc hF (by decide +kernel : decode cX2_staysInside 31 = .ok (.iinc 1 1, 3)) rfl (by decide) ?_
            refine g_goto hF (tgt := 2) (by decide +kernel : decode cX2_staysInside 34 = .ok (.goto (-32), 3)) (by decide) ?_
            exact ih (i + 1) _ (by omega) (by omega) (by omega) (fun z h8 h9 => by
              by_cases e : z = i
              · rw [e]; exact Or.inr z26
              · exact hi z h8 (by omega))
          · skip
            have z26 : tat (m t) (m t i) = -2 := by rw [← q8]; exact Classical.byContradiction (fun q => by rw [if_neg q] at c26; omega)
            refine g_iconst hF (by decide +kernel : decode cX2_staysInside 29 = .ok (.iconst 0, 1)) ?_
            refine g_zreturn hF hQ (by decide +kernel : decode cX2_staysInside 30 = .ok (.ireturn, 1)) (by first | exact Or.inl rfl | exact Or.inr rfl | omega) ?_
            exact ⟨by rw [bI_f (fun q => by rcases q i (by omega) (by omega) with q | q; exact z14 q; exact q z26)], rfl⟩
  exact loop 258 0 (-1) (by omega) (by omega) (by omega) (fun z h8 h9 => absurd h9 (by omega))
set_option maxHeartbeats 4000000 in
set_option maxRecDepth 100000 in
theorem c_X2_addTo (X : jX) (hX : jxok X) (t : Nat) (ht : t < 19) (s : Int) (m : jM) (hm : tok m t) : Con X yX2_addTo cX2_addTo 6 (some .long) 4 [vR 1 t, vL s] m (fun o m' => o = some (vL (ckT (m t) s 257)) ∧ m' = m) := by
  refine Con.of hX (by decide) (Nat.le_of_ble_eq_true rfl) (fun F hF hQ => ?_)
  have hm1 := hm.1
  have hc := cnt_b (m t)
  have hc2 := hm.2
  refine g_ldc2 hF klX2_58 (by decide +kernel : decode cX2_addTo 0 = .ok (.ldc2_w 58, 3)) ?_
  refine g_lload_n hF (by decide +kernel : decode cX2_addTo 3 = .ok (.lload_n 1, 1)) rfl ?_
  refine g_lmul hF (by decide +kernel : decode cX2_addTo 4 = .ok (.lmul, 1)) ?_
  refine g_aload_n hF (by decide +kernel : decode cX2_addTo 5 = .ok (.aload_n 0, 1)) rfl ?_
  refine g_tcnt hF lkX2_15 (by decide +kernel : decode cX2_addTo 6 = .ok (.getfield 15, 3)) ht ?_
  refine g_i2l hF (by decide +kernel : decode cX2_addTo 9 = .ok (.i2l, 1)) (by omega) ?_
  refine g_ladd hF (by decide +kernel : decode cX2_addTo 10 = .ok (.ladd, 1)) ?_
  refine g_lstore_n hF (by decide +kernel : decode cX2_addTo 11 = .ok (.lstore_n 3, 1)) (by decide) ?_
  refine g_iconst hF (by decide +kernel : decode cX2_addTo 12 = .ok (.iconst (-1), 1)) ?_
  refine g_istore hF (by decide +kernel : decode cX2_addTo 13 = .ok (.istore 5, 2)) (by decide) ?_
  have loop : ∀ (n i : Nat) (k a : Int), i ≤ 257 → 258 ≤ i + n → k = i - 1 → a = ckT (m t) s i → jG F X m 15 [(0, vR 1 t), (1, vL s), (3, vL a), (5, vI k)] [] := by
    intro n
    induction n with
    | zero => intro i k a h1 h2; exact absurd h2 (by omega)
    | succ n ih =>
      intro i k a h1 h2 hk ha
      refine g_iload hF (by decide +kernel : decode cX2_addTo 15 = .ok (.iload 5, 2)) rfl ?_
      refine g_sipush hF (by decide +kernel : decode cX2_addTo 17 = .ok (.sipush 255, 3)) (by decide) ?_
      refine g_icmp_gt hF (tgt := 62) (by decide +kernel : decode cX2_addTo 20 = .ok (.if_icmp .gt 42, 3)) (by decide) (by omega) (by omega) (fun c20 => ?_) (fun c20 => ?_)
      · skip
        refine g_lload_n hF (by decide +kernel : decode cX2_addTo 62 = .ok (.lload_n 3, 1)) rfl ?_
        refine g_lreturn hF hQ (by decide +kernel : decode cX2_addTo 63 = .ok (.lreturn, 1)) ?_
        exact ⟨by rw [ha, show i = 257 by omega], rfl⟩
      · skip
        have q8 := tat_i (f := m t) hk (by omega) (by omega)
        have b8 := tat_b hm1 k
        refine g_aload_n hF (by decide +kernel : decode cX2_addTo 23 = .ok (.aload_n 0, 1)) rfl ?_
        refine g_iload hF (by decide +kernel : decode cX2_addTo 24 = .ok (.iload 5, 2)) rfl ?_
        refine g_callV hF lkX2_39 (c_X2_isKey X hX _ ht _ (by omega) _ (by assumption)) (by decide +kernel : decode cX2_addTo 26 = .ok (.invokevirtual 39, 3)) (by decide) rfl rfl rfl rfl ht (Nat.le_of_ble_eq_true rfl) (fun v26 m26 h26 => ?_)
        obtain ⟨rfl, e26⟩ := h26
        obtain rfl := e26.symm
        refine g_if_eq hF (tgt := 56) (by decide +kernel : decode cX2_addTo 29 = .ok (.ifCond .eq 27, 3)) (by decide) (by split <;> omega) (fun c29 => ?_) (fun c29 => ?_)
        · skip
          have z29 : m t i = -2 := by rw [← q8]; exact Classical.byContradiction (fun q => by rw [if_neg q] at c29; omega)
          refine g_iinc hF (by decide +kernel : decode cX2_addTo 56 = .ok (.iinc 5 1, 3)) rfl (by decide) ?_
          refine g_goto hF (tgt := 15) (by decide +kernel : decode cX2_addTo 59 = .ok (.goto (-44), 3)) (by decide) ?_
          exact ih (i + 1) _ _ (by omega) (by omega) (by omega) (by rw [ckT_skip z29, ha])
        · skip
          have z29 : ¬ m t i = -2 := by rw [← q8]; exact fun q => c29 (if_pos q)
          refine g_ldc2 hF klX2_58 (by decide +kernel : decode cX2_addTo 32 = .ok (.ldc2_w 58, 3)) ?_
          refine g_lload_n hF (by decide +kernel : decode cX2_addTo 35 = .ok (.lload_n 3, 1)) rfl ?_
          refine g_lmul hF (by decide +kernel : decode cX2_addTo 36 = .ok (.lmul, 1)) ?_
          refine g_iload hF (by decide +kernel : decode cX2_addTo 37 = .ok (.iload 5, 2)) rfl ?_
          refine g_i2l hF (by decide +kernel : decode cX2_addTo 39 = .ok (.i2l, 1)) (by omega) ?_
          refine g_ladd hF (by decide +kernel : decode cX2_addTo 40 = .ok (.ladd, 1)) ?_
          refine g_lstore_n hF (by decide +kernel : decode cX2_addTo 41 = .ok (.lstore_n 3, 1)) (by decide) ?_
          refine g_ldc2 hF klX2_58 (by decide +kernel : decode cX2_addTo 42 = .ok (.ldc2_w 58, 3)) ?_
          refine g_lload_n hF (by decide +kernel : decode cX2_addTo 45 = .ok (.lload_n 3, 1)) rfl ?_
          refine g_lmul hF (by decide +kernel : decode cX2_addTo 46 = .ok (.lmul, 1)) ?_
          refine g_aload_n hF (by decide +kernel : decode cX2_addTo 47 = .ok (.aload_n 0, 1)) rfl ?_
          refine g_iload hF (by decide +kernel : decode cX2_addTo 48 = .ok (.iload 5, 2)) rfl ?_
          refine g_callV hF lkX2_29 (c_X2_at X hX _ ht _ (by omega) _) (by decide +kernel : decode cX2_addTo 50 = .ok (.invokevirtual 29, 3)) (by decide) rfl rfl rfl rfl ht (Nat.le_of_ble_eq_true rfl) (fun v50 m50 h50 => ?_)
          obtain ⟨rfl, e50⟩ := h50
          obtain rfl := e50.symm
          refine g_i2l hF (by decide +kernel : decode cX2_addTo 53 = .ok (.i2l, 1)) (by omega) ?_
          refine g_ladd hF (by decide +kernel : decode cX2_addTo 54 = .ok (.ladd, 1)) ?_
          refine g_lstore_n hF (by decide +kernel : decode cX2_addTo 55 = .ok (.lstore_n 3, 1)) (by decide) ?_
          refine g_iinc hF (by decide +kernel : decode cX2_addTo 56 = .ok (.iinc 5 1, 3)) rfl (by decide) ?_
          refine g_goto hF (tgt := 15) (by decide +kernel : decode cX2_addTo 59 = .ok (.goto (-44), 3)) (by decide) ?_
          exact ih (i + 1) _ _ (by omega) (by omega) (by omega) (by rw [ckT_add z29, ha, q8, hk])
  exact loop 258 0 (-1) _ (by omega) (by omega) (by omega) (by rw [ckT_0, hc2])

set_option maxHeartbeats 4000000 in
set_option maxRecDepth 100000 in
theorem c_X4_isNumber (X : jX) (hX : jxok X) (k : Int) (hk : jr k) (m : jM) : Con X yX4_isNumber cX4_isNumber 1 (some .boolean) 1 [vI k] m (fun o m' => o = some (vI (if -1 ≤ k ∧ k ≤ 255 then 1 else 0)) ∧ m' = m) := by
  refine Con.of hX (by decide) (Nat.le_of_ble_eq_true rfl) (fun F hF hQ => ?_)
  refine g_iload_n hF (by decide +kernel : decode cX4_isNumber 0 = .ok (.iload_n 0, 1)) rfl ?_
  refine g_iconst hF (by decide +kernel : decode cX4_isNumber 1 = .ok (.iconst (-1), 1)) ?_
  refine g_icmp_lt hF (tgt := 16) (by decide +kernel : decode cX4_isNumber 2 = .ok (.if_icmp .lt 14, 3)) (by decide) (by omega) (by omega) (fun c2 => ?_) (fun c2 => ?_)
  · skip
    refine g_iconst hF (by decide +kernel : decode cX4_isNumber 16 = .ok (.iconst 0, 1)) ?_
    refine g_zreturn hF hQ (by decide +kernel : decode cX4_isNumber 17 = .ok (.ireturn, 1)) (by first | exact Or.inl rfl | exact Or.inr rfl | omega) ?_
    exact ⟨by first | rw [if_pos (by omega)] | rw [if_neg (by omega)], rfl⟩
  · skip
    refine g_iload_n hF (by decide +kernel : decode cX4_isNumber 5 = .ok (.iload_n 0, 1)) rfl ?_
    refine g_sipush hF (by decide +kernel : decode cX4_isNumber 6 = .ok (.sipush 255, 3)) (by decide) ?_
    refine g_icmp_gt hF (tgt := 16) (by decide +kernel : decode cX4_isNumber 9 = .ok (.if_icmp .gt 7, 3)) (by decide) (by omega) (by omega) (fun c9 => ?_) (fun c9 => ?_)
    · skip
      refine g_iconst hF (by decide +kernel : decode cX4_isNumber 16 = .ok (.iconst 0, 1)) ?_
      refine g_zreturn hF hQ (by decide +kernel : decode cX4_isNumber 17 = .ok (.ireturn, 1)) (by first | exact Or.inl rfl | exact Or.inr rfl | omega) ?_
      exact ⟨by first | rw [if_pos (by omega)] | rw [if_neg (by omega)], rfl⟩
    · skip
      refine g_iconst hF (by decide +kernel : decode cX4_isNumber 12 = .ok (.iconst 1, 1)) ?_
      refine g_goto hF (tgt := 17) (by decide +kernel : decode cX4_isNumber 13 = .ok (.goto 4, 3)) (by decide) ?_
      refine g_zreturn hF hQ (by decide +kernel : decode cX4_isNumber 17 = .ok (.ireturn, 1)) (by first | exact Or.inl rfl | exact Or.inr rfl | omega) ?_
      exact ⟨by first | rw [if_pos (by omega)] | rw [if_neg (by omega)], rfl⟩
set_option maxHeartbeats 4000000 in
set_option maxRecDepth 100000 in
theorem c_X2_at (X : jX) (hX : jxok X) (t : Nat) (ht : t < 19) (k : Int) (hk : jr k) (m : jM) : Con X yX2_at cX2_at 2 (some .int) 2 [vR 1 t, vI k] m (fun o m' => o = some (vI (tat (m t) k)) ∧ m' = m) := by
  refine Con.of hX (by decide) (Nat.le_of_ble_eq_true rfl) (fun F hF hQ => ?_)
  refine g_iload_n hF (by decide +kernel : decode cX2_at 0 = .ok (.iload_n 1, 1)) rfl ?_
  refine g_callN hF lkX2_25 (c_X4_isNumber X hX _ (by omega) _) (by decide +kernel : decode cX2_at 1 = .ok (.invokestatic 25, 3)) (by decide) rfl rfl (Nat.le_of_ble_eq_true rfl) (fun v1 m1 h1 => ?_)
  obtain ⟨rfl, e1⟩ := h1
  obtain rfl := e1.symm
  refine g_if_eq hF (tgt := 18) (by decide +kernel : decode cX2_at 4 = .ok (.ifCond .eq 14, 3)) (by decide) (by omega) (fun c4 => ?_) (fun c4 => ?_)
  · skip
    have q4 := i01_f c4
    refine g_bipush hF (by decide +kernel : decode cX2_at 18 = .ok (.bipush (-2), 2)) (by decide) ?_
    refine g_ireturn hF hQ (by decide +kernel : decode cX2_at 20 = .ok (.ireturn, 1)) ?_
    exact ⟨by rw [tat_out q4], rfl⟩
  · skip
    have q4 := i01_t c4
    refine g_aload_n hF (by decide +kernel : decode cX2_at 7 = .ok (.aload_n 0, 1)) rfl ?_
    refine g_told hF lkX2_9 (by decide +kernel : decode cX2_at 8 = .ok (.getfield 9, 3)) ht ?_
    refine g_iload_n hF (by decide +kernel : decode cX2_at 11 = .ok (.iload_n 1, 1)) rfl ?_
    refine g_iconst hF (by decide +kernel : decode cX2_at 12 = .ok (.iconst 1, 1)) ?_
    refine g_iadd hF (by decide +kernel : decode cX2_at 13 = .ok (.iadd, 1)) ?_
    refine g_tld hF (by decide +kernel : decode cX2_at 14 = .ok (.iaload, 1)) ht (by omega) ?_
    refine g_goto hF (tgt := 20) (by decide +kernel : decode cX2_at 15 = .ok (.goto 5, 3)) (by decide) ?_
    refine g_ireturn hF hQ (by decide +kernel : decode cX2_at 20 = .ok (.ireturn, 1)) ?_
    exact ⟨by rw [tat_in q4], rfl⟩
set_option maxHeartbeats 4000000 in
set_option maxRecDepth 100000 in
theorem c_X2_isKey (X : jX) (hX : jxok X) (t : Nat) (ht : t < 19) (k : Int) (hk : jr k) (m : jM) (hm : rowok (m t)) : Con X yX2_isKey cX2_isKey 2 (some .boolean) 3 [vR 1 t, vI k] m (fun o m' => o = some (vI (if tat (m t) k = -2 then 0 else 1)) ∧ m' = m) := by
  refine Con.of hX (by decide) (Nat.le_of_ble_eq_true rfl) (fun F hF hQ => ?_)
  refine g_aload_n hF (by decide +kernel : decode cX2_isKey 0 = .ok (.aload_n 0, 1)) rfl ?_
  refine g_iload_n hF (by decide +kernel : decode cX2_isKey 1 = .ok (.iload_n 1, 1)) rfl ?_
  refine g_callV hF lkX2_29 (c_X2_at X hX _ ht _ (by omega) _) (by decide +kernel : decode cX2_isKey 2 = .ok (.invokevirtual 29, 3)) (by decide) rfl rfl rfl rfl ht (Nat.le_of_ble_eq_true rfl) (fun v2 m2 h2 => ?_)
  obtain ⟨rfl, e2⟩ := h2
  obtain rfl := e2.symm
  refine g_bipush hF (by decide +kernel : decode cX2_isKey 5 = .ok (.bipush (-2), 2)) (by decide) ?_
  have q7 := tat_b hm k
  refine g_icmp_eq hF (tgt := 14) (by decide +kernel : decode cX2_isKey 7 = .ok (.if_icmp .eq 7, 3)) (by decide) (by omega) (by omega) (fun c7 => ?_) (fun c7 => ?_)
  · skip
    refine g_iconst hF (by decide +kernel : decode cX2_isKey 14 = .ok (.iconst 0, 1)) ?_
    refine g_zreturn hF hQ (by decide +kernel : decode cX2_isKey 15 = .ok (.ireturn, 1)) (by first | exact Or.inl rfl | exact Or.inr rfl | omega) ?_
    exact ⟨by first | rw [if_pos (by omega)] | rw [if_neg (by omega)], rfl⟩
  · skip
    refine g_iconst hF (by decide +kernel : decode cX2_isKey 10 = .ok (.iconst 1, 1)) ?_
    refine g_goto hF (tgt := 15) (by decide +kernel : decode cX2_isKey 11 = .ok (.goto 4, 3)) (by decide) ?_
    refine g_zreturn hF hQ (by decide +kernel : decode cX2_isKey 15 = .ok (.ireturn, 1)) (by first | exact Or.inl rfl | exact Or.inr rfl | omega) ?_
    exact ⟨by first | rw [if_pos (by omega)] | rw [if_neg (by omega)], rfl⟩
set_option maxHeartbeats 4000000 in
set_option maxRecDepth 100000 in
theorem c_X2_mark (X : jX) (hX : jxok X) (t : Nat) (ht : t < 19) (k v : Int) (hk : jr k) (hv : -2 ≤ v ∧ v ≤ 255) (m : jM) (hm : tok m t) : Con X yX2_mark cX2_mark 3 none 2 [vR 1 t, vI k, vI v] m (fun o m' => o = none ∧ m' = tset m t (fmark (m t) k v)) := by
  refine Con.of hX (by decide) (Nat.le_of_ble_eq_true rfl) (fun F hF hQ => ?_)
  refine g_iload_n hF (by decide +kernel : decode cX2_mark 0 = .ok (.iload_n 1, 1)) rfl ?_
  refine g_callN hF lkX2_25 (c_X4_isNumber X hX _ (by omega) _) (by decide +kernel : decode cX2_mark 1 = .ok (.invokestatic 25, 3)) (by decide) rfl rfl (Nat.le_of_ble_eq_true rfl) (fun v1 m1 h1 => ?_)
  obtain ⟨rfl, e1⟩ := h1
  obtain rfl := e1.symm
  refine g_if_ne hF (tgt := 8) (by decide +kernel : decode cX2_mark 4 = .ok (.ifCond .ne 4, 3)) (by decide) (by omega) (fun c4 => ?_) (fun c4 => ?_)
  · skip
    have q4 := i01_t c4
    have q5 := hm.1 (k + 1) (by omega) (by omega)
    refine g_aload_n hF (by decide +kernel : decode cX2_mark 8 = .ok (.aload_n 0, 1)) rfl ?_
    refine g_dup hF (by decide +kernel : decode cX2_mark 9 = .ok (.dup, 1)) rfl ?_
    refine g_tcnt hF lkX2_15 (by decide +kernel : decode cX2_mark 10 = .ok (.getfield 15, 3)) ht ?_
    refine g_iload_n hF (by decide +kernel : decode cX2_mark 13 = .ok (.iload_n 2, 1)) rfl ?_
    refine g_bipush hF (by decide +kernel : decode cX2_mark 14 = .ok (.bipush (-2), 2)) (by decide) ?_
    refine g_icmp_ne hF (tgt := 23) (by decide +kernel : decode cX2_mark 16 = .ok (.if_icmp .ne 7, 3)) (by decide) (by omega) (by omega) (fun c16 => ?_) (fun c16 => ?_)
    · skip
      refine g_iconst hF (by decide +kernel : decode cX2_mark 23 = .ok (.iconst 1, 1)) ?_
      refine g_aload_n hF (by decide +kernel : decode cX2_mark 24 = .ok (.aload_n 0, 1)) rfl ?_
      refine g_told hF lkX2_9 (by decide +kernel : decode cX2_mark 25 = .ok (.getfield 9, 3)) ht ?_
      refine g_iload_n hF (by decide +kernel : decode cX2_mark 28 = .ok (.iload_n 1, 1)) rfl ?_
      refine g_iconst hF (by decide +kernel : decode cX2_mark 29 = .ok (.iconst 1, 1)) ?_
      refine g_iadd hF (by decide +kernel : decode cX2_mark 30 = .ok (.iadd, 1)) ?_
      refine g_tld hF (by decide +kernel : decode cX2_mark 31 = .ok (.iaload, 1)) ht (by omega) ?_
      refine g_bipush hF (by decide +kernel : decode cX2_mark 32 = .ok (.bipush (-2), 2)) (by decide) ?_
      refine g_icmp_ne hF (tgt := 41) (by decide +kernel : decode cX2_mark 34 = .ok (.if_icmp .ne 7, 3)) (by decide) (by omega) (by omega) (fun c34 => ?_) (fun c34 => ?_)
      · skip
        refine g_iconst hF (by decide +kernel : decode cX2_mark 41 = .ok (.iconst 1, 1)) ?_
        refine g_isub hF (by decide +kernel : decode cX2_mark 42 = .ok (.isub, 1)) ?_
        refine g_iadd hF (by decide +kernel : decode cX2_mark 43 = .ok (.iadd, 1)) ?_
        refine g_tcntP hF lkPX2_15 (by decide +kernel : decode cX2_mark 44 = .ok (.putfield 15, 3)) ht ?_
        refine g_aload_n hF (by decide +kernel : decode cX2_mark 47 = .ok (.aload_n 0, 1)) rfl ?_
        refine g_told hF lkX2_9 (by decide +kernel : decode cX2_mark 48 = .ok (.getfield 9, 3)) ht ?_
        refine g_iload_n hF (by decide +kernel : decode cX2_mark 51 = .ok (.iload_n 1, 1)) rfl ?_
        refine g_iconst hF (by decide +kernel : decode cX2_mark 52 = .ok (.iconst 1, 1)) ?_
        refine g_iadd hF (by decide +kernel : decode cX2_mark 53 = .ok (.iadd, 1)) ?_
        refine g_iload_n hF (by decide +kernel : decode cX2_mark 54 = .ok (.iload_n 2, 1)) rfl ?_
        refine g_tst hF (by decide +kernel : decode cX2_mark 55 = .ok (.iastore, 1)) ht (by omega) ?_
        refine g_return hF hQ (by decide +kernel : decode cX2_mark 56 = .ok (.return_, 1)) ?_
        exact ⟨rfl, mark_mem ht hm.2 q4 rfl (by unfold pres; (repeat' split) <;> omega)⟩
      · skip
        refine g_iconst hF (by decide +kernel : decode cX2_mark 37 = .ok (.iconst 0, 1)) ?_
        refine g_goto hF (tgt := 42) (by decide +kernel : decode cX2_mark 38 = .ok (.goto 4, 3)) (by decide) ?_
        refine g_isub hF (by decide +kernel : decode cX2_mark 42 = .ok (.isub, 1)) ?_
        refine g_iadd hF (by decide +kernel : decode cX2_mark 43 = .ok (.iadd, 1)) ?_
        refine g_tcntP hF lkPX2_15 (by decide +kernel : decode cX2_mark 44 = .ok (.putfield 15, 3)) ht ?_
        refine g_aload_n hF (by decide +kernel : decode cX2_mark 47 = .ok (.aload_n 0, 1)) rfl ?_
        refine g_told hF lkX2_9 (by decide +kernel : decode cX2_mark 48 = .ok (.getfield 9, 3)) ht ?_
        refine g_iload_n hF (by decide +kernel : decode cX2_mark 51 = .ok (.iload_n 1, 1)) rfl ?_
        refine g_iconst hF (by decide +kernel : decode cX2_mark 52 = .ok (.iconst 1, 1)) ?_
        refine g_iadd hF (by decide +kernel : decode cX2_mark 53 = .ok (.iadd, 1)) ?_
        refine g_iload_n hF (by decide +kernel : decode cX2_mark 54 = .ok (.iload_n 2, 1)) rfl ?_
        refine g_tst hF (by decide +kernel : decode cX2_mark 55 = .ok (.iastore, 1)) ht (by omega) ?_
        refine g_return hF hQ (by decide +kernel : decode cX2_mark 56 = .ok (.return_, 1)) ?_
        exact ⟨rfl, mark_mem ht hm.2 q4 rfl (by unfold pres; (repeat' split) <;> omega)⟩
    · skip
      refine g_iconst hF (by decide +kernel : decode cX2_mark 19 = .ok (.iconst 0, 1)) ?_
      refine g_goto hF (tgt := 24) (by decide +kernel : decode cX2_mark 20 = .ok (.goto 4, 3)) (by decide) ?_
      refine g_aload_n hF (by decide +kernel : decode cX2_mark 24 = .ok (.aload_n 0, 1)) rfl ?_
      refine g_told hF lkX2_9 (by decide +kernel : decode cX2_mark 25 = .ok (.getfield 9, 3)) ht ?_
      refine g_iload_n hF (by decide +kernel : decode cX2_mark 28 = .ok (.iload_n 1, 1)) rfl ?_
      refine g_iconst hF (by decide +kernel : decode cX2_mark 29 = .ok (.iconst 1, 1)) ?_
      refine g_iadd hF (by decide +kernel : decode cX2_mark 30 = .ok (.iadd, 1)) ?_
      refine g_tld hF (by decide +kernel : decode cX2_mark 31 = .ok (.iaload, 1)) ht (by omega) ?_
      refine g_bipush hF (by decide +kernel : decode cX2_mark 32 = .ok (.bipush (-2), 2)) (by decide) ?_
      refine g_icmp_ne hF (tgt := 41) (by decide +kernel : decode cX2_mark 34 = .ok (.if_icmp .ne 7, 3)) (by decide) (by omega) (by omega) (fun c34 => ?_) (fun c34 => ?_)
      · skip
        refine g_iconst hF (by decide +kernel : decode cX2_mark 41 = .ok (.iconst 1, 1)) ?_
        refine g_isub hF (by decide +kernel : decode cX2_mark 42 = .ok (.isub, 1)) ?_
        refine g_iadd hF (by decide +kernel : decode cX2_mark 43 = .ok (.iadd, 1)) ?_
        refine g_tcntP hF lkPX2_15 (by decide +kernel : decode cX2_mark 44 = .ok (.putfield 15, 3)) ht ?_
        refine g_aload_n hF (by decide +kernel : decode cX2_mark 47 = .ok (.aload_n 0, 1)) rfl ?_
        refine g_told hF lkX2_9 (by decide +kernel : decode cX2_mark 48 = .ok (.getfield 9, 3)) ht ?_
        refine g_iload_n hF (by decide +kernel : decode cX2_mark 51 = .ok (.iload_n 1, 1)) rfl ?_
        refine g_iconst hF (by decide +kernel : decode cX2_mark 52 = .ok (.iconst 1, 1)) ?_
        refine g_iadd hF (by decide +kernel : decode cX2_mark 53 = .ok (.iadd, 1)) ?_
        refine g_iload_n hF (by decide +kernel : decode cX2_mark 54 = .ok (.iload_n 2, 1)) rfl ?_
        refine g_tst hF (by decide +kernel : decode cX2_mark 55 = .ok (.iastore, 1)) ht (by omega) ?_
        refine g_return hF hQ (by decide +kernel : decode cX2_mark 56 = .ok (.return_, 1)) ?_
        exact ⟨rfl, mark_mem ht hm.2 q4 rfl (by unfold pres; (repeat' split) <;> omega)⟩
      · skip
        refine g_iconst hF (by decide +kernel : decode cX2_mark 37 = .ok (.iconst 0, 1)) ?_
        refine g_goto hF (tgt := 42) (by decide +kernel : decode cX2_mark 38 = .ok (.goto 4, 3)) (by decide) ?_
        refine g_isub hF (by decide +kernel : decode cX2_mark 42 = .ok (.isub, 1)) ?_
        refine g_iadd hF (by decide +kernel : decode cX2_mark 43 = .ok (.iadd, 1)) ?_
        refine g_tcntP hF lkPX2_15 (by decide +kernel : decode cX2_mark 44 = .ok (.putfield 15, 3)) ht ?_
        refine g_aload_n hF (by decide +kernel : decode cX2_mark 47 = .ok (.aload_n 0, 1)) rfl ?_
        refine g_told hF lkX2_9 (by decide +kernel : decode cX2_mark 48 = .ok (.getfield 9, 3)) ht ?_
        refine g_iload_n hF (by decide +kernel : decode cX2_mark 51 = .ok (.iload_n 1, 1)) rfl ?_
        refine g_iconst hF (by decide +kernel : decode cX2_mark 52 = .ok (.iconst 1, 1)) ?_
        refine g_iadd hF (by decide +kernel : decode cX2_mark 53 = .ok (.iadd, 1)) ?_
        refine g_iload_n hF (by decide +kernel : decode cX2_mark 54 = .ok (.iload_n 2, 1)) rfl ?_
        refine g_tst hF (by decide +kernel : decode cX2_mark 55 = .ok (.iastore, 1)) ht (by omega) ?_
        refine g_return hF hQ (by decide +kernel : decode cX2_mark 56 = .ok (.return_, 1)) ?_
        exact ⟨rfl, mark_mem ht hm.2 q4 rfl (by unfold pres; (repeat' split) <;> omega)⟩
  · skip
    have q4 := i01_f c4
    refine g_return hF hQ (by decide +kernel : decode cX2_mark 7 = .ok (.return_, 1)) ?_
    exact ⟨rfl, by unfold fmark; rw [if_neg q4, tset_self hm.2]⟩
set_option maxHeartbeats 4000000 in
set_option maxRecDepth 100000 in
theorem c_X2_wipe (X : jX) (hX : jxok X) (t : Nat) (ht : t < 19) (m : jM) : Con X yX2_wipe cX2_wipe 1 none 2 [vR 1 t] m (fun o m' => o = none ∧ m' = tset m t (fun _ => -2)) := by
  refine Con.of hX (by decide) (Nat.le_of_ble_eq_true rfl) (fun F hF hQ => ?_)
  refine g_aload_n hF (by decide +kernel : decode cX2_wipe 0 = .ok (.aload_n 0, 1)) rfl ?_
  refine g_told hF lkX2_9 (by decide +kernel : decode cX2_wipe 1 = .ok (.getfield 9, 3)) ht ?_
  refine g_bipush hF (by decide +kernel : decode cX2_wipe 4 = .ok (.bipush (-2), 2)) (by decide) ?_
  refine g_callS hF lkX2_19 (c_fillT X hX _ ht _ _) (by decide +kernel : decode cX2_wipe 6 = .ok (.invokestatic 19, 3)) (by decide) rfl rfl (Nat.le_of_ble_eq_true rfl) (fun v6 m6 h6 => ?_)
  obtain ⟨rfl, e6⟩ := h6
  obtain rfl := e6.symm
  refine g_aload_n hF (by decide +kernel : decode cX2_wipe 9 = .ok (.aload_n 0, 1)) rfl ?_
  refine g_iconst hF (by decide +kernel : decode cX2_wipe 10 = .ok (.iconst 0, 1)) ?_
  refine g_tcntP hF lkPX2_15 (by decide +kernel : decode cX2_wipe 11 = .ok (.putfield 15, 3)) ht ?_
  refine g_return hF hQ (by decide +kernel : decode cX2_wipe 14 = .ok (.return_, 1)) ?_
  exact ⟨rfl, row_mem cnt_none.symm⟩
set_option maxHeartbeats 4000000 in
set_option maxRecDepth 100000 in
theorem c_X2_become (X : jX) (hX : jxok X) (t : Nat) (ht : t < 19) (u : Nat) (hu : u < 19) (m : jM) (hm : m (19 + u) 0 = cnt (m u)) : Con X yX2_become cX2_become 2 none 2 [vR 1 t, vR 1 u] m (fun o m' => o = none ∧ m' = tset m t (m u)) := by
  refine Con.of hX (by decide) (Nat.le_of_ble_eq_true rfl) (fun F hF hQ => ?_)
  refine g_aload_n hF (by decide +kernel : decode cX2_become 0 = .ok (.aload_n 1, 1)) rfl ?_
  refine g_told hF lkX2_9 (by decide +kernel : decode cX2_become 1 = .ok (.getfield 9, 3)) hu ?_
  refine g_iconst hF (by decide +kernel : decode cX2_become 4 = .ok (.iconst 0, 1)) ?_
  refine g_aload_n hF (by decide +kernel : decode cX2_become 5 = .ok (.aload_n 0, 1)) rfl ?_
  refine g_told hF lkX2_9 (by decide +kernel : decode cX2_become 6 = .ok (.getfield 9, 3)) ht ?_
  refine g_iconst hF (by decide +kernel : decode cX2_become 9 = .ok (.iconst 0, 1)) ?_
  refine g_sipush hF (by decide +kernel : decode cX2_become 10 = .ok (.sipush 257, 3)) (by decide) ?_
  refine g_copy hF lkX2_33 (by decide +kernel : decode cX2_become 13 = .ok (.invokestatic 33, 3)) (by decide) hu ht (Nat.le_of_ble_eq_true rfl) ?_
  refine g_aload_n hF (by decide +kernel : decode cX2_become 16 = .ok (.aload_n 0, 1)) rfl ?_
  refine g_aload_n hF (by decide +kernel : decode cX2_become 17 = .ok (.aload_n 1, 1)) rfl ?_
  refine g_tcnt hF lkX2_15 (by decide +kernel : decode cX2_become 18 = .ok (.getfield 15, 3)) hu ?_
  refine g_tcntP hF lkPX2_15 (by decide +kernel : decode cX2_become 21 = .ok (.putfield 15, 3)) ht ?_
  refine g_return hF hQ (by decide +kernel : decode cX2_become 24 = .ok (.return_, 1)) ?_
  exact ⟨rfl, row_mem (by rw [mrow_ne (by omega)]; exact hm)⟩
set_option maxHeartbeats 4000000 in
set_option maxRecDepth 100000 in
theorem c_X2_timesOf (X : jX) (hX : jxok X) (t : Nat) (ht : t < 19) (v : Int) (hv : jr v) (m : jM) (hm : rowok (m t)) : Con X yX2_timesOf cX2_timesOf 4 (some .int) 3 [vR 1 t, vI v] m (fun o m' => o = some (vI (sumN (fun z => if m t z = v then 1 else 0) 257)) ∧ m' = m) := by
  refine Con.of hX (by decide) (Nat.le_of_ble_eq_true rfl) (fun F hF hQ => ?_)
  refine g_iconst hF (by decide +kernel : decode cX2_timesOf 0 = .ok (.iconst 0, 1)) ?_
  refine g_istore_n hF (by decide +kernel : decode cX2_timesOf 1 = .ok (.istore_n 2, 1)) (by decide) ?_
  refine g_iconst hF (by decide +kernel : decode cX2_timesOf 2 = .ok (.iconst (-1), 1)) ?_
  refine g_istore_n hF (by decide +kernel : decode cX2_timesOf 3 = .ok (.istore_n 3, 1)) (by decide) ?_
  have loop : ∀ (n i : Nat) (a k : Int), i ≤ 257 → 258 ≤ i + n → k = i - 1 → a = sumN (fun z => if m t z = v then 1 else 0) i → jG F X m 4 [(0, vR 1 t), (1, vI v), (2, vI a), (3, vI k)] [] := by
    intro n
    induction n with
    | zero => intro i a k h1 h2; exact absurd h2 (by omega)
    | succ n ih =>
      intro i a k h1 h2 hk ha
      refine g_iload_n hF (by decide +kernel : decode cX2_timesOf 4 = .ok (.iload_n 3, 1)) rfl ?_
      refine g_sipush hF (by decide +kernel : decode cX2_timesOf 5 = .ok (.sipush 255, 3)) (by decide) ?_
      refine g_icmp_gt hF (tgt := 34) (by decide +kernel : decode cX2_timesOf 8 = .ok (.if_icmp .gt 26, 3)) (by decide) (by omega) (by omega) (fun c8 => ?_) (fun c8 => ?_)
      · skip
        refine g_iload_n hF (by decide +kernel : decode cX2_timesOf 34 = .ok (.iload_n 2, 1)) rfl ?_
        refine g_ireturn hF hQ (by decide +kernel : decode cX2_timesOf 35 = .ok (.ireturn, 1)) ?_
        exact ⟨by rw [ha, show i = 257 by omega], rfl⟩
      · skip
        have q8 := tat_i (f := m t) hk (by omega) (by omega)
        have q9 := hm i (by omega) (by omega)
        refine g_iload_n hF (by decide +kernel : decode cX2_timesOf 11 = .ok (.iload_n 2, 1)) rfl ?_
        refine g_aload_n hF (by decide +kernel : decode cX2_timesOf 12 = .ok (.aload_n 0, 1)) rfl ?_
        refine g_iload_n hF (by decide +kernel : decode cX2_timesOf 13 = .ok (.iload_n 3, 1)) rfl ?_
        refine g_callV hF lkX2_29 (c_X2_at X hX _ ht _ (by omega) _) (by decide +kernel : decode cX2_timesOf 14 = .ok (.invokevirtual 29, 3)) (by decide) rfl rfl rfl rfl ht (Nat.le_of_ble_eq_true rfl) (fun v14 m14 h14 => ?_)
        obtain ⟨rfl, e14⟩ := h14
        obtain rfl := e14.symm
        refine g_iload_n hF (by decide +kernel : decode cX2_timesOf 17 = .ok (.iload_n 1, 1)) rfl ?_
        refine g_icmp_ne hF (tgt := 25) (by decide +kernel : decode cX2_timesOf 18 = .ok (.if_icmp .ne 7, 3)) (by decide) (by omega) (by omega) (fun c18 => ?_) (fun c18 => ?_)
        · skip
          refine g_iconst hF (by decide +kernel : decode cX2_timesOf 25 = .ok (.iconst 0, 1)) ?_
          refine g_iadd hF (by decide +kernel : decode cX2_timesOf 26 = .ok (.iadd, 1)) ?_
          refine g_istore_n hF (by decide +kernel : decode cX2_timesOf 27 = .ok (.istore_n 2, 1)) (by decide) ?_
          refine g_iinc hF (by decide +kernel : decode cX2_timesOf 28 = .ok (.iinc 3 1, 3)) rfl (by decide) ?_
          refine g_goto hF (tgt := 4) (by decide +kernel : decode cX2_timesOf 31 = .ok (.goto (-27), 3)) (by decide) ?_
          exact ih (i + 1) _ _ (by omega) (by omega) (by omega) (by rw [ha, sumN_s]; first | rw [if_pos (by omega)] | rw [if_neg (by omega)])
        · skip
          refine g_iconst hF (by decide +kernel : decode cX2_timesOf 21 = .ok (.iconst 1, 1)) ?_
          refine g_goto hF (tgt := 26) (by decide +kernel : decode cX2_timesOf 22 = .ok (.goto 4, 3)) (by decide) ?_
          refine g_iadd hF (by decide +kernel : decode cX2_timesOf 26 = .ok (.iadd, 1)) ?_
          refine g_istore_n hF (by decide +kernel : decode cX2_timesOf 27 = .ok (.istore_n 2, 1)) (by decide) ?_
          refine g_iinc hF (by decide +kernel : decode cX2_timesOf 28 = .ok (.iinc 3 1, 3)) rfl (by decide) ?_
          refine g_goto hF (tgt := 4) (by decide +kernel : decode cX2_timesOf 31 = .ok (.goto (-27), 3)) (by decide) ?_
          exact ih (i + 1) _ _ (by omega) (by omega) (by omega) (by rw [ha, sumN_s]; first | rw [if_pos (by omega)] | rw [if_neg (by omega)])
  exact loop 258 0 0 (-1) (by omega) (by omega) (by omega) (sumN_0 _).symm

set_option maxHeartbeats 4000000 in
set_option maxRecDepth 100000 in
theorem lc_put (X : jX) (hX : jxok X) (s : Nat) (hs : s < 8) (k v : Int) (hk : num k) (hv : num v) (m : jM) (hC : CI m) : ConL X yL_put cL_put 6 (some .int) [(0, 12, 15, 13), (0, 12, 19, 15)] 13 [vR 2 38, vI s, vI k, vI v, vR 2 59] m (fun o m' => o = some (vI 0) ∧ ∃ m1 : jM, CW m s (fmark (m s) k v) m1 ∧ m' = mset m1 59 0 (jnI ((tat (m s) k)))) := by
  refine ConL.of hX (by decide) (Nat.le_of_ble_eq_true rfl) (fun F hF hQ => ?_)
  refine g_aload hF (by decide +kernel : decode cL_put 0 = .ok (.aload 4, 2)) rfl ?_
  refine g_iconst hF (by decide +kernel : decode cL_put 2 = .ok (.iconst 0, 1)) ?_
  refine g_aload_n hF (by decide +kernel : decode cL_put 3 = .ok (.aload_n 0, 1)) rfl ?_
  refine g_iload_n hF (by decide +kernel : decode cL_put 4 = .ok (.iload_n 1, 1)) rfl ?_
  refine g_iload_n hF (by decide +kernel : decode cL_put 5 = .ok (.iload_n 2, 1)) rfl ?_
  refine g_iload_n hF (by decide +kernel : decode cL_put 6 = .ok (.iload_n 3, 1)) rfl ?_
  refine g_callV hF lkL_7 (c_X4_put X hX s hs k v hk hv m hC) (by decide +kernel : decode cL_put 7 = .ok (.invokevirtual 7, 3)) (by decide) rfl rfl rfl rfl jok38 (Nat.le_of_ble_eq_true rfl) (fun v7 m7 h7 => ?_)
  obtain ⟨rfl, e7⟩ := h7
  refine g_i2lN hF (by decide +kernel : decode cL_put 10 = .ok (.i2l, 1)) ?_
  refine g_lastore hF (by decide +kernel : decode cL_put 11 = .ok (.lastore, 1)) ?_
  refine g_goto hF (tgt := 23) (by decide +kernel : decode cL_put 12 = .ok (.goto 11, 3)) (by decide) ?_
  refine g_iconst hF (by decide +kernel : decode cL_put 23 = .ok (.iconst 0, 1)) ?_
  refine g_ireturnL hF hQ (by decide +kernel : decode cL_put 24 = .ok (.ireturn, 1)) ?_
  exact ⟨rfl, m7, e7, rfl⟩
set_option maxHeartbeats 4000000 in
set_option maxRecDepth 100000 in
theorem lxa_put (X : jX) (hX : jxok X) (s : Int) (js : jr s) (k : Int) (jk : jr k) (v : Int) (jv : jr v) (m : jM) (h : ¬ ((0 ≤ s ∧ s < 8))) : ConL X yL_put cL_put 6 (some .int) [(0, 12, 15, 13), (0, 12, 19, 15)] 13 [vR 2 38, vI s, vI k, vI v, vR 2 59] m (fun o m' => o = some (vI 1) ∧ m' = m) := by
  refine ConL.of hX (by decide) (Nat.le_of_ble_eq_true rfl) (fun F hF hQ => ?_)
  refine g_aload hF (by decide +kernel : decode cL_put 0 = .ok (.aload 4, 2)) rfl ?_
  refine g_iconst hF (by decide +kernel : decode cL_put 2 = .ok (.iconst 0, 1)) ?_
  refine g_aload_n hF (by decide +kernel : decode cL_put 3 = .ok (.aload_n 0, 1)) rfl ?_
  refine g_iload_n hF (by decide +kernel : decode cL_put 4 = .ok (.iload_n 1, 1)) rfl ?_
  refine g_iload_n hF (by decide +kernel : decode cL_put 5 = .ok (.iload_n 2, 1)) rfl ?_
  refine g_iload_n hF (by decide +kernel : decode cL_put 6 = .ok (.iload_n 3, 1)) rfl ?_
  exact g_tryV hF hQ lkL_7 (xa_X4_put X hX s js k jk v jv m h) (by decide +kernel : decode cL_put 7 = .ok (.invokevirtual 7, 3)) (by decide) rfl rfl rfl rfl jok38 (Nat.le_of_ble_eq_true rfl) [] ⟨0, 12, 15, 13⟩ [⟨0, 12, 19, 15⟩] rfl (fun _ h => absurd h List.not_mem_nil) (by decide) (by decide) clL_13 cast_IndexOutOfBoundsException (i := 5) (la := 2) (Or.inr ⟨(by decide +kernel : decode cL_put 15 = .ok (.astore 5, 2)), rfl⟩) (by decide) (by decide +kernel : decode cL_put (15 + 2) = .ok (.iconst 1, 1)) (by decide +kernel : decode cL_put (15 + 2 + 1) = .ok (.ireturn, 1)) (fun m9 h9 => ⟨rfl, h9⟩)
set_option maxHeartbeats 4000000 in
set_option maxRecDepth 100000 in
theorem lxb_put (X : jX) (hX : jxok X) (s : Nat) (hs : s < 8) (k : Int) (jk : jr k) (v : Int) (jv : jr v) (m : jM) (hC : CI m) (h : ¬ (num k ∧ num v)) : ConL X yL_put cL_put 6 (some .int) [(0, 12, 15, 13), (0, 12, 19, 15)] 13 [vR 2 38, vI s, vI k, vI v, vR 2 59] m (fun o m' => o = some (vI 2) ∧ m' = m) := by
  refine ConL.of hX (by decide) (Nat.le_of_ble_eq_true rfl) (fun F hF hQ => ?_)
  refine g_aload hF (by decide +kernel : decode cL_put 0 = .ok (.aload 4, 2)) rfl ?_
  refine g_iconst hF (by decide +kernel : decode cL_put 2 = .ok (.iconst 0, 1)) ?_
  refine g_aload_n hF (by decide +kernel : decode cL_put 3 = .ok (.aload_n 0, 1)) rfl ?_
  refine g_iload_n hF (by decide +kernel : decode cL_put 4 = .ok (.iload_n 1, 1)) rfl ?_
  refine g_iload_n hF (by decide +kernel : decode cL_put 5 = .ok (.iload_n 2, 1)) rfl ?_
  refine g_iload_n hF (by decide +kernel : decode cL_put 6 = .ok (.iload_n 3, 1)) rfl ?_
  exact g_tryV hF hQ lkL_7 (xb_X4_put X hX s hs k jk v jv m hC h) (by decide +kernel : decode cL_put 7 = .ok (.invokevirtual 7, 3)) (by decide) rfl rfl rfl rfl jok38 (Nat.le_of_ble_eq_true rfl) [⟨0, 12, 15, 13⟩] ⟨0, 12, 19, 15⟩ [] rfl (List.forall_mem_cons.mpr ⟨⟨by decide, "java/lang/IndexOutOfBoundsException", clL_13, by decide +kernel⟩, (fun _ h => absurd h List.not_mem_nil)⟩) (by decide) (by decide) clL_15 cast_IllegalArgumentException (i := 5) (la := 2) (Or.inr ⟨(by decide +kernel : decode cL_put 19 = .ok (.astore 5, 2)), rfl⟩) (by decide) (by decide +kernel : decode cL_put (19 + 2) = .ok (.iconst 2, 1)) (by decide +kernel : decode cL_put (19 + 2 + 1) = .ok (.ireturn, 1)) (fun m9 h9 => ⟨rfl, h9⟩)
set_option maxHeartbeats 4000000 in
set_option maxRecDepth 100000 in
theorem lc_putFirst (X : jX) (hX : jxok X) (s : Nat) (hs : s < 8) (k v : Int) (hk : num k) (hv : num v) (m : jM) (hC : CI m) : ConL X yL_putFirst cL_putFirst 6 (some .int) [(0, 12, 15, 13), (0, 12, 19, 15)] 13 [vR 2 38, vI s, vI k, vI v, vR 2 59] m (fun o m' => o = some (vI 0) ∧ ∃ m1 : jM, CW m s (if tat (m s) k < 0 then fmark (m s) k v else m s) m1 ∧ m' = mset m1 59 0 (jnI ((tat (m s) k)))) := by
  refine ConL.of hX (by decide) (Nat.le_of_ble_eq_true rfl) (fun F hF hQ => ?_)
  refine g_aload hF (by decide +kernel : decode cL_putFirst 0 = .ok (.aload 4, 2)) rfl ?_
  refine g_iconst hF (by decide +kernel : decode cL_putFirst 2 = .ok (.iconst 0, 1)) ?_
  refine g_aload_n hF (by decide +kernel : decode cL_putFirst 3 = .ok (.aload_n 0, 1)) rfl ?_
  refine g_iload_n hF (by decide +kernel : decode cL_putFirst 4 = .ok (.iload_n 1, 1)) rfl ?_
  refine g_iload_n hF (by decide +kernel : decode cL_putFirst 5 = .ok (.iload_n 2, 1)) rfl ?_
  refine g_iload_n hF (by decide +kernel : decode cL_putFirst 6 = .ok (.iload_n 3, 1)) rfl ?_
  refine g_callV hF lkL_17 (c_X4_putFirst X hX s hs k v hk hv m hC) (by decide +kernel : decode cL_putFirst 7 = .ok (.invokevirtual 17, 3)) (by decide) rfl rfl rfl rfl jok38 (Nat.le_of_ble_eq_true rfl) (fun v7 m7 h7 => ?_)
  obtain ⟨rfl, e7⟩ := h7
  refine g_i2lN hF (by decide +kernel : decode cL_putFirst 10 = .ok (.i2l, 1)) ?_
  refine g_lastore hF (by decide +kernel : decode cL_putFirst 11 = .ok (.lastore, 1)) ?_
  refine g_goto hF (tgt := 23) (by decide +kernel : decode cL_putFirst 12 = .ok (.goto 11, 3)) (by decide) ?_
  refine g_iconst hF (by decide +kernel : decode cL_putFirst 23 = .ok (.iconst 0, 1)) ?_
  refine g_ireturnL hF hQ (by decide +kernel : decode cL_putFirst 24 = .ok (.ireturn, 1)) ?_
  exact ⟨rfl, m7, e7, rfl⟩
set_option maxHeartbeats 4000000 in
set_option maxRecDepth 100000 in
theorem lxa_putFirst (X : jX) (hX : jxok X) (s : Int) (js : jr s) (k : Int) (jk : jr k) (v : Int) (jv : jr v) (m : jM) (h : ¬ ((0 ≤ s ∧ s < 8))) : ConL X yL_putFirst cL_putFirst 6 (some .int) [(0, 12, 15, 13), (0, 12, 19, 15)] 13 [vR 2 38, vI s, vI k, vI v, vR 2 59] m (fun o m' => o = some (vI 1) ∧ m' = m) := by
  refine ConL.of hX (by decide) (Nat.le_of_ble_eq_true rfl) (fun F hF hQ => ?_)
  refine g_aload hF (by decide +kernel : decode cL_putFirst 0 = .ok (.aload 4, 2)) rfl ?_
  refine g_iconst hF (by decide +kernel : decode cL_putFirst 2 = .ok (.iconst 0, 1)) ?_
  refine g_aload_n hF (by decide +kernel : decode cL_putFirst 3 = .ok (.aload_n 0, 1)) rfl ?_
  refine g_iload_n hF (by decide +kernel : decode cL_putFirst 4 = .ok (.iload_n 1, 1)) rfl ?_
  refine g_iload_n hF (by decide +kernel : decode cL_putFirst 5 = .ok (.iload_n 2, 1)) rfl ?_
  refine g_iload_n hF (by decide +kernel : decode cL_putFirst 6 = .ok (.iload_n 3, 1)) rfl ?_
  exact g_tryV hF hQ lkL_17 (xa_X4_putFirst X hX s js k jk v jv m h) (by decide +kernel : decode cL_putFirst 7 = .ok (.invokevirtual 17, 3)) (by decide) rfl rfl rfl rfl jok38 (Nat.le_of_ble_eq_true rfl) [] ⟨0, 12, 15, 13⟩ [⟨0, 12, 19, 15⟩] rfl (fun _ h => absurd h List.not_mem_nil) (by decide) (by decide) clL_13 cast_IndexOutOfBoundsException (i := 5) (la := 2) (Or.inr ⟨(by decide +kernel : decode cL_putFirst 15 = .ok (.astore 5, 2)), rfl⟩) (by decide) (by decide +kernel : decode cL_putFirst (15 + 2) = .ok (.iconst 1, 1)) (by decide +kernel : decode cL_putFirst (15 + 2 + 1) = .ok (.ireturn, 1)) (fun m9 h9 => ⟨rfl, h9⟩)
set_option maxHeartbeats 4000000 in
set_option maxRecDepth 100000 in
theorem lxb_putFirst (X : jX) (hX : jxok X) (s : Nat) (hs : s < 8) (k : Int) (jk : jr k) (v : Int) (jv : jr v) (m : jM) (hC : CI m) (h : ¬ (num k ∧ num v)) : ConL X yL_putFirst cL_putFirst 6 (some .int) [(0, 12, 15, 13), (0, 12, 19, 15)] 13 [vR 2 38, vI s, vI k, vI v, vR 2 59] m (fun o m' => o = some (vI 2) ∧ m' = m) := by
  refine ConL.of hX (by decide) (Nat.le_of_ble_eq_true rfl) (fun F hF hQ => ?_)
  refine g_aload hF (by decide +kernel : decode cL_putFirst 0 = .ok (.aload 4, 2)) rfl ?_
  refine g_iconst hF (by decide +kernel : decode cL_putFirst 2 = .ok (.iconst 0, 1)) ?_
  refine g_aload_n hF (by decide +kernel : decode cL_putFirst 3 = .ok (.aload_n 0, 1)) rfl ?_
  refine g_iload_n hF (by decide +kernel : decode cL_putFirst 4 = .ok (.iload_n 1, 1)) rfl ?_
  refine g_iload_n hF (by decide +kernel : decode cL_putFirst 5 = .ok (.iload_n 2, 1)) rfl ?_
  refine g_iload_n hF (by decide +kernel : decode cL_putFirst 6 = .ok (.iload_n 3, 1)) rfl ?_
  exact g_tryV hF hQ lkL_17 (xb_X4_putFirst X hX s hs k jk v jv m hC h) (by decide +kernel : decode cL_putFirst 7 = .ok (.invokevirtual 17, 3)) (by decide) rfl rfl rfl rfl jok38 (Nat.le_of_ble_eq_true rfl) [⟨0, 12, 15, 13⟩] ⟨0, 12, 19, 15⟩ [] rfl (List.forall_mem_cons.mpr ⟨⟨by decide, "java/lang/IndexOutOfBoundsException", clL_13, by decide +kernel⟩, (fun _ h => absurd h List.not_mem_nil)⟩) (by decide) (by decide) clL_15 cast_IllegalArgumentException (i := 5) (la := 2) (Or.inr ⟨(by decide +kernel : decode cL_putFirst 19 = .ok (.astore 5, 2)), rfl⟩) (by decide) (by decide +kernel : decode cL_putFirst (19 + 2) = .ok (.iconst 2, 1)) (by decide +kernel : decode cL_putFirst (19 + 2 + 1) = .ok (.ireturn, 1)) (fun m9 h9 => ⟨rfl, h9⟩)
set_option maxHeartbeats 4000000 in
set_option maxRecDepth 100000 in
theorem lc_change (X : jX) (hX : jxok X) (s : Nat) (hs : s < 8) (k v : Int) (hk : num k) (hv : num v) (m : jM) (hC : CI m) : ConL X yL_change cL_change 6 (some .int) [(0, 12, 15, 13), (0, 12, 19, 15)] 13 [vR 2 38, vI s, vI k, vI v, vR 2 59] m (fun o m' => o = some (vI 0) ∧ ∃ m1 : jM, CW m s (if tat (m s) k = -2 then m s else fmark (m s) k v) m1 ∧ m' = mset m1 59 0 (jnI ((tat (m s) k)))) := by
  refine ConL.of hX (by decide) (Nat.le_of_ble_eq_true rfl) (fun F hF hQ => ?_)
  refine g_aload hF (by decide +kernel : decode cL_change 0 = .ok (.aload 4, 2)) rfl ?_
  refine g_iconst hF (by decide +kernel : decode cL_change 2 = .ok (.iconst 0, 1)) ?_
  refine g_aload_n hF (by decide +kernel : decode cL_change 3 = .ok (.aload_n 0, 1)) rfl ?_
  refine g_iload_n hF (by decide +kernel : decode cL_change 4 = .ok (.iload_n 1, 1)) rfl ?_
  refine g_iload_n hF (by decide +kernel : decode cL_change 5 = .ok (.iload_n 2, 1)) rfl ?_
  refine g_iload_n hF (by decide +kernel : decode cL_change 6 = .ok (.iload_n 3, 1)) rfl ?_
  refine g_callV hF lkL_20 (c_X4_change X hX s hs k v hk hv m hC) (by decide +kernel : decode cL_change 7 = .ok (.invokevirtual 20, 3)) (by decide) rfl rfl rfl rfl jok38 (Nat.le_of_ble_eq_true rfl) (fun v7 m7 h7 => ?_)
  obtain ⟨rfl, e7⟩ := h7
  refine g_i2lN hF (by decide +kernel : decode cL_change 10 = .ok (.i2l, 1)) ?_
  refine g_lastore hF (by decide +kernel : decode cL_change 11 = .ok (.lastore, 1)) ?_
  refine g_goto hF (tgt := 23) (by decide +kernel : decode cL_change 12 = .ok (.goto 11, 3)) (by decide) ?_
  refine g_iconst hF (by decide +kernel : decode cL_change 23 = .ok (.iconst 0, 1)) ?_
  refine g_ireturnL hF hQ (by decide +kernel : decode cL_change 24 = .ok (.ireturn, 1)) ?_
  exact ⟨rfl, m7, e7, rfl⟩
set_option maxHeartbeats 4000000 in
set_option maxRecDepth 100000 in
theorem lxa_change (X : jX) (hX : jxok X) (s : Int) (js : jr s) (k : Int) (jk : jr k) (v : Int) (jv : jr v) (m : jM) (h : ¬ ((0 ≤ s ∧ s < 8))) : ConL X yL_change cL_change 6 (some .int) [(0, 12, 15, 13), (0, 12, 19, 15)] 13 [vR 2 38, vI s, vI k, vI v, vR 2 59] m (fun o m' => o = some (vI 1) ∧ m' = m) := by
  refine ConL.of hX (by decide) (Nat.le_of_ble_eq_true rfl) (fun F hF hQ => ?_)
  refine g_aload hF (by decide +kernel : decode cL_change 0 = .ok (.aload 4, 2)) rfl ?_
  refine g_iconst hF (by decide +kernel : decode cL_change 2 = .ok (.iconst 0, 1)) ?_
  refine g_aload_n hF (by decide +kernel : decode cL_change 3 = .ok (.aload_n 0, 1)) rfl ?_
  refine g_iload_n hF (by decide +kernel : decode cL_change 4 = .ok (.iload_n 1, 1)) rfl ?_
  refine g_iload_n hF (by decide +kernel : decode cL_change 5 = .ok (.iload_n 2, 1)) rfl ?_
  refine g_iload_n hF (by decide +kernel : decode cL_change 6 = .ok (.iload_n 3, 1)) rfl ?_
  exact g_tryV hF hQ lkL_20 (xa_X4_change X hX s js k jk v jv m h) (by decide +kernel : decode cL_change 7 = .ok (.invokevirtual 20, 3)) (by decide) rfl rfl rfl rfl jok38 (Nat.le_of_ble_eq_true rfl) [] ⟨0, 12, 15, 13⟩ [⟨0, 12, 19, 15⟩] rfl (fun _ h => absurd h List.not_mem_nil) (by decide) (by decide) clL_13 cast_IndexOutOfBoundsException (i := 5) (la := 2) (Or.inr ⟨(by decide +kernel : decode cL_change 15 = .ok (.astore 5, 2)), rfl⟩) (by decide) (by decide +kernel : decode cL_change (15 + 2) = .ok (.iconst 1, 1)) (by decide +kernel : decode cL_change (15 + 2 + 1) = .ok (.ireturn, 1)) (fun m9 h9 => ⟨rfl, h9⟩)
set_option maxHeartbeats 4000000 in
set_option maxRecDepth 100000 in
theorem lxb_change (X : jX) (hX : jxok X) (s : Nat) (hs : s < 8) (k : Int) (jk : jr k) (v : Int) (jv : jr v) (m : jM) (hC : CI m) (h : ¬ (num k ∧ num v)) : ConL X yL_change cL_change 6 (some .int) [(0, 12, 15, 13), (0, 12, 19, 15)] 13 [vR 2 38, vI s, vI k, vI v, vR 2 59] m (fun o m' => o = some (vI 2) ∧ m' = m) := by
  refine ConL.of hX (by decide) (Nat.le_of_ble_eq_true rfl) (fun F hF hQ => ?_)
  refine g_aload hF (by decide +kernel : decode cL_change 0 = .ok (.aload 4, 2)) rfl ?_
  refine g_iconst hF (by decide +kernel : decode cL_change 2 = .ok (.iconst 0, 1)) ?_
  refine g_aload_n hF (by decide +kernel : decode cL_change 3 = .ok (.aload_n 0, 1)) rfl ?_
  refine g_iload_n hF (by decide +kernel : decode cL_change 4 = .ok (.iload_n 1, 1)) rfl ?_
  refine g_iload_n hF (by decide +kernel : decode cL_change 5 = .ok (.iload_n 2, 1)) rfl ?_
  refine g_iload_n hF (by decide +kernel : decode cL_change 6 = .ok (.iload_n 3, 1)) rfl ?_
  exact g_tryV hF hQ lkL_20 (xb_X4_change X hX s hs k jk v jv m hC h) (by decide +kernel : decode cL_change 7 = .ok (.invokevirtual 20, 3)) (by decide) rfl rfl rfl rfl jok38 (Nat.le_of_ble_eq_true rfl) [⟨0, 12, 15, 13⟩] ⟨0, 12, 19, 15⟩ [] rfl (List.forall_mem_cons.mpr ⟨⟨by decide, "java/lang/IndexOutOfBoundsException", clL_13, by decide +kernel⟩, (fun _ h => absurd h List.not_mem_nil)⟩) (by decide) (by decide) clL_15 cast_IllegalArgumentException (i := 5) (la := 2) (Or.inr ⟨(by decide +kernel : decode cL_change 19 = .ok (.astore 5, 2)), rfl⟩) (by decide) (by decide +kernel : decode cL_change (19 + 2) = .ok (.iconst 2, 1)) (by decide +kernel : decode cL_change (19 + 2 + 1) = .ok (.ireturn, 1)) (fun m9 h9 => ⟨rfl, h9⟩)
set_option maxHeartbeats 4000000 in
set_option maxRecDepth 100000 in
theorem lc_changeIf (X : jX) (hX : jxok X) (s : Nat) (hs : s < 8) (k w v : Int) (hk : num k) (hw : num w) (hv : num v) (m : jM) (hC : CI m) : ConL X yL_changeIf cL_changeIf 7 (some .int) [(0, 21, 24, 13), (0, 21, 28, 15)] 13 [vR 2 38, vI s, vI k, vI w, vI v, vR 2 59] m (fun o m' => o = some (vI 0) ∧ ∃ m1 : jM, CW m s (if tat (m s) k = w then fmark (m s) k v else m s) m1 ∧ m' = mset m1 59 0 ((if tat (m s) k = w then 1 else 0))) := by
  refine ConL.of hX (by decide) (Nat.le_of_ble_eq_true rfl) (fun F hF hQ => ?_)
  refine g_aload hF (by decide +kernel : decode cL_changeIf 0 = .ok (.aload 5, 2)) rfl ?_
  refine g_iconst hF (by decide +kernel : decode cL_changeIf 2 = .ok (.iconst 0, 1)) ?_
  refine g_aload_n hF (by decide +kernel : decode cL_changeIf 3 = .ok (.aload_n 0, 1)) rfl ?_
  refine g_iload_n hF (by decide +kernel : decode cL_changeIf 4 = .ok (.iload_n 1, 1)) rfl ?_
  refine g_iload_n hF (by decide +kernel : decode cL_changeIf 5 = .ok (.iload_n 2, 1)) rfl ?_
  refine g_iload_n hF (by decide +kernel : decode cL_changeIf 6 = .ok (.iload_n 3, 1)) rfl ?_
  refine g_iload hF (by decide +kernel : decode cL_changeIf 7 = .ok (.iload 4, 2)) rfl ?_
  refine g_callV hF lkL_23 (c_X4_changeIf X hX s hs k w v hk hw hv m hC) (by decide +kernel : decode cL_changeIf 9 = .ok (.invokevirtual 23, 3)) (by decide) rfl rfl rfl rfl jok38 (Nat.le_of_ble_eq_true rfl) (fun v9 m9 h9 => ?_)
  obtain ⟨rfl, e9⟩ := h9
  have hb01 : (((if tat (m s) k = w then 1 else 0)) : Int) = 0 ∨ (((if tat (m s) k = w then 1 else 0)) : Int) = 1 := by first | exact bI_c _ | (split <;> omega)
  refine g_if_eq hF (tgt := 19) (by decide +kernel : decode cL_changeIf 12 = .ok (.ifCond .eq 7, 3)) (by decide) (by rcases hb01 with e | e <;> rw [e] <;> decide) (fun c12 => ?_) (fun c12 => ?_)
  · skip
    refine g_lconst hF (by decide +kernel : decode cL_changeIf 19 = .ok (.lconst 0, 1)) rfl ?_
    refine g_lastore hF (by decide +kernel : decode cL_changeIf 20 = .ok (.lastore, 1)) ?_
    refine g_goto hF (tgt := 32) (by decide +kernel : decode cL_changeIf 21 = .ok (.goto 11, 3)) (by decide) ?_
    refine g_iconst hF (by decide +kernel : decode cL_changeIf 32 = .ok (.iconst 0, 1)) ?_
    refine g_ireturnL hF hQ (by decide +kernel : decode cL_changeIf 33 = .ok (.ireturn, 1)) ?_
    refine ⟨rfl, m9, e9, ?_⟩
    first | (rw [c12]; done) | (rw [c12]; rfl)
  · skip
    refine g_lconst hF (by decide +kernel : decode cL_changeIf 15 = .ok (.lconst 1, 1)) rfl ?_
    refine g_goto hF (tgt := 20) (by decide +kernel : decode cL_changeIf 16 = .ok (.goto 4, 3)) (by decide) ?_
    refine g_lastore hF (by decide +kernel : decode cL_changeIf 20 = .ok (.lastore, 1)) ?_
    refine g_goto hF (tgt := 32) (by decide +kernel : decode cL_changeIf 21 = .ok (.goto 11, 3)) (by decide) ?_
    refine g_iconst hF (by decide +kernel : decode cL_changeIf 32 = .ok (.iconst 0, 1)) ?_
    refine g_ireturnL hF hQ (by decide +kernel : decode cL_changeIf 33 = .ok (.ireturn, 1)) ?_
    refine ⟨rfl, m9, e9, ?_⟩
    first | (rw [hb01.resolve_left c12]; done) | (rw [hb01.resolve_left c12]; rfl)
set_option maxHeartbeats 4000000 in
set_option maxRecDepth 100000 in
theorem lxa_changeIf (X : jX) (hX : jxok X) (s : Int) (js : jr s) (k : Int) (jk : jr k) (w : Int) (jw : jr w) (v : Int) (jv : jr v) (m : jM) (h : ¬ ((0 ≤ s ∧ s < 8))) : ConL X yL_changeIf cL_changeIf 7 (some .int) [(0, 21, 24, 13), (0, 21, 28, 15)] 13 [vR 2 38, vI s, vI k, vI w, vI v, vR 2 59] m (fun o m' => o = some (vI 1) ∧ m' = m) := by
  refine ConL.of hX (by decide) (Nat.le_of_ble_eq_true rfl) (fun F hF hQ => ?_)
  refine g_aload hF (by decide +kernel : decode cL_changeIf 0 = .ok (.aload 5, 2)) rfl ?_
  refine g_iconst hF (by decide +kernel : decode cL_changeIf 2 = .ok (.iconst 0, 1)) ?_
  refine g_aload_n hF (by decide +kernel : decode cL_changeIf 3 = .ok (.aload_n 0, 1)) rfl ?_
  refine g_iload_n hF (by decide +kernel : decode cL_changeIf 4 = .ok (.iload_n 1, 1)) rfl ?_
  refine g_iload_n hF (by decide +kernel : decode cL_changeIf 5 = .ok (.iload_n 2, 1)) rfl ?_
  refine g_iload_n hF (by decide +kernel : decode cL_changeIf 6 = .ok (.iload_n 3, 1)) rfl ?_
  refine g_iload hF (by decide +kernel : decode cL_changeIf 7 = .ok (.iload 4, 2)) rfl ?_
  exact g_tryV hF hQ lkL_23 (xa_X4_changeIf X hX s js k jk w jw v jv m h) (by decide +kernel : decode cL_changeIf 9 = .ok (.invokevirtual 23, 3)) (by decide) rfl rfl rfl rfl jok38 (Nat.le_of_ble_eq_true rfl) [] ⟨0, 21, 24, 13⟩ [⟨0, 21, 28, 15⟩] rfl (fun _ h => absurd h List.not_mem_nil) (by decide) (by decide) clL_13 cast_IndexOutOfBoundsException (i := 6) (la := 2) (Or.inr ⟨(by decide +kernel : decode cL_changeIf 24 = .ok (.astore 6, 2)), rfl⟩) (by decide) (by decide +kernel : decode cL_changeIf (24 + 2) = .ok (.iconst 1, 1)) (by decide +kernel : decode cL_changeIf (24 + 2 + 1) = .ok (.ireturn, 1)) (fun m9 h9 => ⟨rfl, h9⟩)
set_option maxHeartbeats 4000000 in
set_option maxRecDepth 100000 in
theorem lxb_changeIf (X : jX) (hX : jxok X) (s : Nat) (hs : s < 8) (k : Int) (jk : jr k) (w : Int) (jw : jr w) (v : Int) (jv : jr v) (m : jM) (hC : CI m) (h : ¬ (num k ∧ num w ∧ num v)) : ConL X yL_changeIf cL_changeIf 7 (some .int) [(0, 21, 24, 13), (0, 21, 28, 15)] 13 [vR 2 38, vI s, vI k, vI w, vI v, vR 2 59] m (fun o m' => o = some (vI 2) ∧ m' = m) := by
  refine ConL.of hX (by decide) (Nat.le_of_ble_eq_true rfl) (fun F hF hQ => ?_)
  refine g_aload hF (by decide +kernel : decode cL_changeIf 0 = .ok (.aload 5, 2)) rfl ?_
  refine g_iconst hF (by decide +kernel : decode cL_changeIf 2 = .ok (.iconst 0, 1)) ?_
  refine g_aload_n hF (by decide +kernel : decode cL_changeIf 3 = .ok (.aload_n 0, 1)) rfl ?_
  refine g_iload_n hF (by decide +kernel : decode cL_changeIf 4 = .ok (.iload_n 1, 1)) rfl ?_
  refine g_iload_n hF (by decide +kernel : decode cL_changeIf 5 = .ok (.iload_n 2, 1)) rfl ?_
  refine g_iload_n hF (by decide +kernel : decode cL_changeIf 6 = .ok (.iload_n 3, 1)) rfl ?_
  refine g_iload hF (by decide +kernel : decode cL_changeIf 7 = .ok (.iload 4, 2)) rfl ?_
  exact g_tryV hF hQ lkL_23 (xb_X4_changeIf X hX s hs k jk w jw v jv m hC h) (by decide +kernel : decode cL_changeIf 9 = .ok (.invokevirtual 23, 3)) (by decide) rfl rfl rfl rfl jok38 (Nat.le_of_ble_eq_true rfl) [⟨0, 21, 24, 13⟩] ⟨0, 21, 28, 15⟩ [] rfl (List.forall_mem_cons.mpr ⟨⟨by decide, "java/lang/IndexOutOfBoundsException", clL_13, by decide +kernel⟩, (fun _ h => absurd h List.not_mem_nil)⟩) (by decide) (by decide) clL_15 cast_IllegalArgumentException (i := 6) (la := 2) (Or.inr ⟨(by decide +kernel : decode cL_changeIf 28 = .ok (.astore 6, 2)), rfl⟩) (by decide) (by decide +kernel : decode cL_changeIf (28 + 2) = .ok (.iconst 2, 1)) (by decide +kernel : decode cL_changeIf (28 + 2 + 1) = .ok (.ireturn, 1)) (fun m9 h9 => ⟨rfl, h9⟩)
set_option maxHeartbeats 4000000 in
set_option maxRecDepth 100000 in
theorem lc_take (X : jX) (hX : jxok X) (s : Nat) (hs : s < 8) (k : Int) (hk : num k) (m : jM) (hC : CI m) : ConL X yL_take cL_take 5 (some .int) [(0, 10, 13, 13), (0, 10, 17, 15)] 13 [vR 2 38, vI s, vI k, vR 2 59] m (fun o m' => o = some (vI 0) ∧ ∃ m1 : jM, CW m s (fmark (m s) k (-2)) m1 ∧ m' = mset m1 59 0 (jnI ((tat (m s) k)))) := by
  refine ConL.of hX (by decide) (Nat.le_of_ble_eq_true rfl) (fun F hF hQ => ?_)
  refine g_aload_n hF (by decide +kernel : decode cL_take 0 = .ok (.aload_n 3, 1)) rfl ?_
  refine g_iconst hF (by decide +kernel : decode cL_take 1 = .ok (.iconst 0, 1)) ?_
  refine g_aload_n hF (by decide +kernel : decode cL_take 2 = .ok (.aload_n 0, 1)) rfl ?_
  refine g_iload_n hF (by decide +kernel : decode cL_take 3 = .ok (.iload_n 1, 1)) rfl ?_
  refine g_iload_n hF (by decide +kernel : decode cL_take 4 = .ok (.iload_n 2, 1)) rfl ?_
  refine g_callV hF lkL_27 (c_X4_take X hX s hs k hk m hC) (by decide +kernel : decode cL_take 5 = .ok (.invokevirtual 27, 3)) (by decide) rfl rfl rfl rfl jok38 (Nat.le_of_ble_eq_true rfl) (fun v5 m5 h5 => ?_)
  obtain ⟨rfl, e5⟩ := h5
  refine g_i2lN hF (by decide +kernel : decode cL_take 8 = .ok (.i2l, 1)) ?_
  refine g_lastore hF (by decide +kernel : decode cL_take 9 = .ok (.lastore, 1)) ?_
  refine g_goto hF (tgt := 21) (by decide +kernel : decode cL_take 10 = .ok (.goto 11, 3)) (by decide) ?_
  refine g_iconst hF (by decide +kernel : decode cL_take 21 = .ok (.iconst 0, 1)) ?_
  refine g_ireturnL hF hQ (by decide +kernel : decode cL_take 22 = .ok (.ireturn, 1)) ?_
  exact ⟨rfl, m5, e5, rfl⟩
set_option maxHeartbeats 4000000 in
set_option maxRecDepth 100000 in
theorem lxa_take (X : jX) (hX : jxok X) (s : Int) (js : jr s) (k : Int) (jk : jr k) (m : jM) (h : ¬ ((0 ≤ s ∧ s < 8))) : ConL X yL_take cL_take 5 (some .int) [(0, 10, 13, 13), (0, 10, 17, 15)] 13 [vR 2 38, vI s, vI k, vR 2 59] m (fun o m' => o = some (vI 1) ∧ m' = m) := by
  refine ConL.of hX (by decide) (Nat.le_of_ble_eq_true rfl) (fun F hF hQ => ?_)
  refine g_aload_n hF (by decide +kernel : decode cL_take 0 = .ok (.aload_n 3, 1)) rfl ?_
  refine g_iconst hF (by decide +kernel : decode cL_take 1 = .ok (.iconst 0, 1)) ?_
  refine g_aload_n hF (by decide +kernel : decode cL_take 2 = .ok (.aload_n 0, 1)) rfl ?_
  refine g_iload_n hF (by decide +kernel : decode cL_take 3 = .ok (.iload_n 1, 1)) rfl ?_
  refine g_iload_n hF (by decide +kernel : decode cL_take 4 = .ok (.iload_n 2, 1)) rfl ?_
  exact g_tryV hF hQ lkL_27 (xa_X4_take X hX s js k jk m h) (by decide +kernel : decode cL_take 5 = .ok (.invokevirtual 27, 3)) (by decide) rfl rfl rfl rfl jok38 (Nat.le_of_ble_eq_true rfl) [] ⟨0, 10, 13, 13⟩ [⟨0, 10, 17, 15⟩] rfl (fun _ h => absurd h List.not_mem_nil) (by decide) (by decide) clL_13 cast_IndexOutOfBoundsException (i := 4) (la := 2) (Or.inr ⟨(by decide +kernel : decode cL_take 13 = .ok (.astore 4, 2)), rfl⟩) (by decide) (by decide +kernel : decode cL_take (13 + 2) = .ok (.iconst 1, 1)) (by decide +kernel : decode cL_take (13 + 2 + 1) = .ok (.ireturn, 1)) (fun m9 h9 => ⟨rfl, h9⟩)
set_option maxHeartbeats 4000000 in
set_option maxRecDepth 100000 in
theorem lxb_take (X : jX) (hX : jxok X) (s : Nat) (hs : s < 8) (k : Int) (jk : jr k) (m : jM) (hC : CI m) (h : ¬ (num k)) : ConL X yL_take cL_take 5 (some .int) [(0, 10, 13, 13), (0, 10, 17, 15)] 13 [vR 2 38, vI s, vI k, vR 2 59] m (fun o m' => o = some (vI 2) ∧ m' = m) := by
  refine ConL.of hX (by decide) (Nat.le_of_ble_eq_true rfl) (fun F hF hQ => ?_)
  refine g_aload_n hF (by decide +kernel : decode cL_take 0 = .ok (.aload_n 3, 1)) rfl ?_
  refine g_iconst hF (by decide +kernel : decode cL_take 1 = .ok (.iconst 0, 1)) ?_
  refine g_aload_n hF (by decide +kernel : decode cL_take 2 = .ok (.aload_n 0, 1)) rfl ?_
  refine g_iload_n hF (by decide +kernel : decode cL_take 3 = .ok (.iload_n 1, 1)) rfl ?_
  refine g_iload_n hF (by decide +kernel : decode cL_take 4 = .ok (.iload_n 2, 1)) rfl ?_
  exact g_tryV hF hQ lkL_27 (xb_X4_take X hX s hs k jk m hC h) (by decide +kernel : decode cL_take 5 = .ok (.invokevirtual 27, 3)) (by decide) rfl rfl rfl rfl jok38 (Nat.le_of_ble_eq_true rfl) [⟨0, 10, 13, 13⟩] ⟨0, 10, 17, 15⟩ [] rfl (List.forall_mem_cons.mpr ⟨⟨by decide, "java/lang/IndexOutOfBoundsException", clL_13, by decide +kernel⟩, (fun _ h => absurd h List.not_mem_nil)⟩) (by decide) (by decide) clL_15 cast_IllegalArgumentException (i := 4) (la := 2) (Or.inr ⟨(by decide +kernel : decode cL_take 17 = .ok (.astore 4, 2)), rfl⟩) (by decide) (by decide +kernel : decode cL_take (17 + 2) = .ok (.iconst 2, 1)) (by decide +kernel : decode cL_take (17 + 2 + 1) = .ok (.ireturn, 1)) (fun m9 h9 => ⟨rfl, h9⟩)
set_option maxHeartbeats 4000000 in
set_option maxRecDepth 100000 in
theorem lc_takeIf (X : jX) (hX : jxok X) (s : Nat) (hs : s < 8) (k v : Int) (hk : num k) (hv : num v) (m : jM) (hC : CI m) : ConL X yL_takeIf cL_takeIf 6 (some .int) [(0, 19, 22, 13), (0, 19, 26, 15)] 13 [vR 2 38, vI s, vI k, vI v, vR 2 59] m (fun o m' => o = some (vI 0) ∧ ∃ m1 : jM, CW m s (if tat (m s) k = v then fmark (m s) k (-2) else m s) m1 ∧ m' = mset m1 59 0 ((if tat (m s) k = v then 1 else 0))) := by
  refine ConL.of hX (by decide) (Nat.le_of_ble_eq_true rfl) (fun F hF hQ => ?_)
  refine g_aload hF (by decide +kernel : decode cL_takeIf 0 = .ok (.aload 4, 2)) rfl ?_
  refine g_iconst hF (by decide +kernel : decode cL_takeIf 2 = .ok (.iconst 0, 1)) ?_
  refine g_aload_n hF (by decide +kernel : decode cL_takeIf 3 = .ok (.aload_n 0, 1)) rfl ?_
  refine g_iload_n hF (by decide +kernel : decode cL_takeIf 4 = .ok (.iload_n 1, 1)) rfl ?_
  refine g_iload_n hF (by decide +kernel : decode cL_takeIf 5 = .ok (.iload_n 2, 1)) rfl ?_
  refine g_iload_n hF (by decide +kernel : decode cL_takeIf 6 = .ok (.iload_n 3, 1)) rfl ?_
  refine g_callV hF lkL_31 (c_X4_takeIf X hX s hs k v hk hv m hC) (by decide +kernel : decode cL_takeIf 7 = .ok (.invokevirtual 31, 3)) (by decide) rfl rfl rfl rfl jok38 (Nat.le_of_ble_eq_true rfl) (fun v7 m7 h7 => ?_)
  obtain ⟨rfl, e7⟩ := h7
  have hb01 : (((if tat (m s) k = v then 1 else 0)) : Int) = 0 ∨ (((if tat (m s) k = v then 1 else 0)) : Int) = 1 := by first | exact bI_c _ | (split <;> omega)
  refine g_if_eq hF (tgt := 17) (by decide +kernel : decode cL_takeIf 10 = .ok (.ifCond .eq 7, 3)) (by decide) (by rcases hb01 with e | e <;> rw [e] <;> decide) (fun c10 => ?_) (fun c10 => ?_)
  · skip
    refine g_lconst hF (by decide +kernel : decode cL_takeIf 17 = .ok (.lconst 0, 1)) rfl ?_
    refine g_lastore hF (by decide +kernel : decode cL_takeIf 18 = .ok (.lastore, 1)) ?_
    refine g_goto hF (tgt := 30) (by decide +kernel : decode cL_takeIf 19 = .ok (.goto 11, 3)) (by decide) ?_
    refine g_iconst hF (by decide +kernel : decode cL_takeIf 30 = .ok (.iconst 0, 1)) ?_
    refine g_ireturnL hF hQ (by decide +kernel : decode cL_takeIf 31 = .ok (.ireturn, 1)) ?_
    refine ⟨rfl, m7, e7, ?_⟩
    first | (rw [c10]; done) | (rw [c10]; rfl)
  · skip
    refine g_lconst hF (by decide +kernel : decode cL_takeIf 13 = .ok (.lconst 1, 1)) rfl ?_
    refine g_goto hF (tgt := 18) (by decide +kernel : decode cL_takeIf 14 = .ok (.goto 4, 3)) (by decide) ?_
    refine g_lastore hF (by decide +kernel : decode cL_takeIf 18 = .ok (.lastore, 1)) ?_
    refine g_goto hF (tgt := 30) (by decide +kernel : decode cL_takeIf 19 = .ok (.goto 11, 3)) (by decide) ?_
    refine g_iconst hF (by decide +kernel : decode cL_takeIf 30 = .ok (.iconst 0, 1)) ?_
    refine g_ireturnL hF hQ (by decide +kernel : decode cL_takeIf 31 = .ok (.ireturn, 1)) ?_
    refine ⟨rfl, m7, e7, ?_⟩
    first | (rw [hb01.resolve_left c10]; done) | (rw [hb01.resolve_left c10]; rfl)
set_option maxHeartbeats 4000000 in
set_option maxRecDepth 100000 in
theorem lxa_takeIf (X : jX) (hX : jxok X) (s : Int) (js : jr s) (k : Int) (jk : jr k) (v : Int) (jv : jr v) (m : jM) (h : ¬ ((0 ≤ s ∧ s < 8))) : ConL X yL_takeIf cL_takeIf 6 (some .int) [(0, 19, 22, 13), (0, 19, 26, 15)] 13 [vR 2 38, vI s, vI k, vI v, vR 2 59] m (fun o m' => o = some (vI 1) ∧ m' = m) := by
  refine ConL.of hX (by decide) (Nat.le_of_ble_eq_true rfl) (fun F hF hQ => ?_)
  refine g_aload hF (by decide +kernel : decode cL_takeIf 0 = .ok (.aload 4, 2)) rfl ?_
  refine g_iconst hF (by decide +kernel : decode cL_takeIf 2 = .ok (.iconst 0, 1)) ?_
  refine g_aload_n hF (by decide +kernel : decode cL_takeIf 3 = .ok (.aload_n 0, 1)) rfl ?_
  refine g_iload_n hF (by decide +kernel : decode cL_takeIf 4 = .ok (.iload_n 1, 1)) rfl ?_
  refine g_iload_n hF (by decide +kernel : decode cL_takeIf 5 = .ok (.iload_n 2, 1)) rfl ?_
  refine g_iload_n hF (by decide +kernel : decode cL_takeIf 6 = .ok (.iload_n 3, 1)) rfl ?_
  exact g_tryV hF hQ lkL_31 (xa_X4_takeIf X hX s js k jk v jv m h) (by decide +kernel : decode cL_takeIf 7 = .ok (.invokevirtual 31, 3)) (by decide) rfl rfl rfl rfl jok38 (Nat.le_of_ble_eq_true rfl) [] ⟨0, 19, 22, 13⟩ [⟨0, 19, 26, 15⟩] rfl (fun _ h => absurd h List.not_mem_nil) (by decide) (by decide) clL_13 cast_IndexOutOfBoundsException (i := 5) (la := 2) (Or.inr ⟨(by decide +kernel : decode cL_takeIf 22 = .ok (.astore 5, 2)), rfl⟩) (by decide) (by decide +kernel : decode cL_takeIf (22 + 2) = .ok (.iconst 1, 1)) (by decide +kernel : decode cL_takeIf (22 + 2 + 1) = .ok (.ireturn, 1)) (fun m9 h9 => ⟨rfl, h9⟩)
set_option maxHeartbeats 4000000 in
set_option maxRecDepth 100000 in
theorem lxb_takeIf (X : jX) (hX : jxok X) (s : Nat) (hs : s < 8) (k : Int) (jk : jr k) (v : Int) (jv : jr v) (m : jM) (hC : CI m) (h : ¬ (num k ∧ num v)) : ConL X yL_takeIf cL_takeIf 6 (some .int) [(0, 19, 22, 13), (0, 19, 26, 15)] 13 [vR 2 38, vI s, vI k, vI v, vR 2 59] m (fun o m' => o = some (vI 2) ∧ m' = m) := by
  refine ConL.of hX (by decide) (Nat.le_of_ble_eq_true rfl) (fun F hF hQ => ?_)
  refine g_aload hF (by decide +kernel : decode cL_takeIf 0 = .ok (.aload 4, 2)) rfl ?_
  refine g_iconst hF (by decide +kernel : decode cL_takeIf 2 = .ok (.iconst 0, 1)) ?_
  refine g_aload_n hF (by decide +kernel : decode cL_takeIf 3 = .ok (.aload_n 0, 1)) rfl ?_
  refine g_iload_n hF (by decide +kernel : decode cL_takeIf 4 = .ok (.iload_n 1, 1)) rfl ?_
  refine g_iload_n hF (by decide +kernel : decode cL_takeIf 5 = .ok (.iload_n 2, 1)) rfl ?_
  refine g_iload_n hF (by decide +kernel : decode cL_takeIf 6 = .ok (.iload_n 3, 1)) rfl ?_
  exact g_tryV hF hQ lkL_31 (xb_X4_takeIf X hX s hs k jk v jv m hC h) (by decide +kernel : decode cL_takeIf 7 = .ok (.invokevirtual 31, 3)) (by decide) rfl rfl rfl rfl jok38 (Nat.le_of_ble_eq_true rfl) [⟨0, 19, 22, 13⟩] ⟨0, 19, 26, 15⟩ [] rfl (List.forall_mem_cons.mpr ⟨⟨by decide, "java/lang/IndexOutOfBoundsException", clL_13, by decide +kernel⟩, (fun _ h => absurd h List.not_mem_nil)⟩) (by decide) (by decide) clL_15 cast_IllegalArgumentException (i := 5) (la := 2) (Or.inr ⟨(by decide +kernel : decode cL_takeIf 26 = .ok (.astore 5, 2)), rfl⟩) (by decide) (by decide +kernel : decode cL_takeIf (26 + 2) = .ok (.iconst 2, 1)) (by decide +kernel : decode cL_takeIf (26 + 2 + 1) = .ok (.ireturn, 1)) (fun m9 h9 => ⟨rfl, h9⟩)
set_option maxHeartbeats 4000000 in
set_option maxRecDepth 100000 in
theorem lc_merge (X : jX) (hX : jxok X) (s : Nat) (hs : s < 8) (k v h : Int) (hk : num k) (hv : 0 ≤ v ∧ v ≤ 255) (hw : wayM h) (m : jM) (hC : CI m) : ConL X yL_merge cL_merge 7 (some .int) [(0, 14, 17, 13), (0, 14, 21, 15)] 13 [vR 2 38, vI s, vI k, vI v, vI h, vR 2 59] m (fun o m' => o = some (vI 0) ∧ ∃ m1 : jM, CW m s (fmark (m s) k (mergeV (tat (m s) k) v h)) m1 ∧ m' = mset m1 59 0 (jnI ((mergeV (tat (m s) k) v h)))) := by
  refine ConL.of hX (by decide) (Nat.le_of_ble_eq_true rfl) (fun F hF hQ => ?_)
  refine g_aload hF (by decide +kernel : decode cL_merge 0 = .ok (.aload 5, 2)) rfl ?_
  refine g_iconst hF (by decide +kernel : decode cL_merge 2 = .ok (.iconst 0, 1)) ?_
  refine g_aload_n hF (by decide +kernel : decode cL_merge 3 = .ok (.aload_n 0, 1)) rfl ?_
  refine g_iload_n hF (by decide +kernel : decode cL_merge 4 = .ok (.iload_n 1, 1)) rfl ?_
  refine g_iload_n hF (by decide +kernel : decode cL_merge 5 = .ok (.iload_n 2, 1)) rfl ?_
  refine g_iload_n hF (by decide +kernel : decode cL_merge 6 = .ok (.iload_n 3, 1)) rfl ?_
  refine g_iload hF (by decide +kernel : decode cL_merge 7 = .ok (.iload 4, 2)) rfl ?_
  refine g_callV hF lkL_35 (c_X4_merge X hX s hs k v h hk hv hw m hC) (by decide +kernel : decode cL_merge 9 = .ok (.invokevirtual 35, 3)) (by decide) rfl rfl rfl rfl jok38 (Nat.le_of_ble_eq_true rfl) (fun v9 m9 h9 => ?_)
  obtain ⟨rfl, e9⟩ := h9
  refine g_i2lN hF (by decide +kernel : decode cL_merge 12 = .ok (.i2l, 1)) ?_
  refine g_lastore hF (by decide +kernel : decode cL_merge 13 = .ok (.lastore, 1)) ?_
  refine g_goto hF (tgt := 25) (by decide +kernel : decode cL_merge 14 = .ok (.goto 11, 3)) (by decide) ?_
  refine g_iconst hF (by decide +kernel : decode cL_merge 25 = .ok (.iconst 0, 1)) ?_
  refine g_ireturnL hF hQ (by decide +kernel : decode cL_merge 26 = .ok (.ireturn, 1)) ?_
  exact ⟨rfl, m9, e9, rfl⟩
set_option maxHeartbeats 4000000 in
set_option maxRecDepth 100000 in
theorem lxa_merge (X : jX) (hX : jxok X) (s : Int) (js : jr s) (k : Int) (jk : jr k) (v : Int) (jv : jr v) (h0 : Int) (jh0 : jr h0) (m : jM) (h : ¬ ((0 ≤ s ∧ s < 8))) : ConL X yL_merge cL_merge 7 (some .int) [(0, 14, 17, 13), (0, 14, 21, 15)] 13 [vR 2 38, vI s, vI k, vI v, vI h0, vR 2 59] m (fun o m' => o = some (vI 1) ∧ m' = m) := by
  refine ConL.of hX (by decide) (Nat.le_of_ble_eq_true rfl) (fun F hF hQ => ?_)
  refine g_aload hF (by decide +kernel : decode cL_merge 0 = .ok (.aload 5, 2)) rfl ?_
  refine g_iconst hF (by decide +kernel : decode cL_merge 2 = .ok (.iconst 0, 1)) ?_
  refine g_aload_n hF (by decide +kernel : decode cL_merge 3 = .ok (.aload_n 0, 1)) rfl ?_
  refine g_iload_n hF (by decide +kernel : decode cL_merge 4 = .ok (.iload_n 1, 1)) rfl ?_
  refine g_iload_n hF (by decide +kernel : decode cL_merge 5 = .ok (.iload_n 2, 1)) rfl ?_
  refine g_iload_n hF (by decide +kernel : decode cL_merge 6 = .ok (.iload_n 3, 1)) rfl ?_
  refine g_iload hF (by decide +kernel : decode cL_merge 7 = .ok (.iload 4, 2)) rfl ?_
  exact g_tryV hF hQ lkL_35 (xa_X4_merge X hX s js k jk v jv h0 jh0 m h) (by decide +kernel : decode cL_merge 9 = .ok (.invokevirtual 35, 3)) (by decide) rfl rfl rfl rfl jok38 (Nat.le_of_ble_eq_true rfl) [] ⟨0, 14, 17, 13⟩ [⟨0, 14, 21, 15⟩] rfl (fun _ h => absurd h List.not_mem_nil) (by decide) (by decide) clL_13 cast_IndexOutOfBoundsException (i := 6) (la := 2) (Or.inr ⟨(by decide +kernel : decode cL_merge 17 = .ok (.astore 6, 2)), rfl⟩) (by decide) (by decide +kernel : decode cL_merge (17 + 2) = .ok (.iconst 1, 1)) (by decide +kernel : decode cL_merge (17 + 2 + 1) = .ok (.ireturn, 1)) (fun m9 h9 => ⟨rfl, h9⟩)
set_option maxHeartbeats 4000000 in
set_option maxRecDepth 100000 in
theorem lxb_merge (X : jX) (hX : jxok X) (s : Nat) (hs : s < 8) (k : Int) (jk : jr k) (v : Int) (jv : jr v) (h0 : Int) (jh0 : jr h0) (m : jM) (hC : CI m) (h : ¬ (num k ∧ (0 ≤ v ∧ v ≤ 255) ∧ wayM h0)) : ConL X yL_merge cL_merge 7 (some .int) [(0, 14, 17, 13), (0, 14, 21, 15)] 13 [vR 2 38, vI s, vI k, vI v, vI h0, vR 2 59] m (fun o m' => o = some (vI 2) ∧ m' = m) := by
  refine ConL.of hX (by decide) (Nat.le_of_ble_eq_true rfl) (fun F hF hQ => ?_)
  refine g_aload hF (by decide +kernel : decode cL_merge 0 = .ok (.aload 5, 2)) rfl ?_
  refine g_iconst hF (by decide +kernel : decode cL_merge 2 = .ok (.iconst 0, 1)) ?_
  refine g_aload_n hF (by decide +kernel : decode cL_merge 3 = .ok (.aload_n 0, 1)) rfl ?_
  refine g_iload_n hF (by decide +kernel : decode cL_merge 4 = .ok (.iload_n 1, 1)) rfl ?_
  refine g_iload_n hF (by decide +kernel : decode cL_merge 5 = .ok (.iload_n 2, 1)) rfl ?_
  refine g_iload_n hF (by decide +kernel : decode cL_merge 6 = .ok (.iload_n 3, 1)) rfl ?_
  refine g_iload hF (by decide +kernel : decode cL_merge 7 = .ok (.iload 4, 2)) rfl ?_
  exact g_tryV hF hQ lkL_35 (xb_X4_merge X hX s hs k jk v jv h0 jh0 m hC h) (by decide +kernel : decode cL_merge 9 = .ok (.invokevirtual 35, 3)) (by decide) rfl rfl rfl rfl jok38 (Nat.le_of_ble_eq_true rfl) [⟨0, 14, 17, 13⟩] ⟨0, 14, 21, 15⟩ [] rfl (List.forall_mem_cons.mpr ⟨⟨by decide, "java/lang/IndexOutOfBoundsException", clL_13, by decide +kernel⟩, (fun _ h => absurd h List.not_mem_nil)⟩) (by decide) (by decide) clL_15 cast_IllegalArgumentException (i := 6) (la := 2) (Or.inr ⟨(by decide +kernel : decode cL_merge 21 = .ok (.astore 6, 2)), rfl⟩) (by decide) (by decide +kernel : decode cL_merge (21 + 2) = .ok (.iconst 2, 1)) (by decide +kernel : decode cL_merge (21 + 2 + 1) = .ok (.ireturn, 1)) (fun m9 h9 => ⟨rfl, h9⟩)
set_option maxHeartbeats 4000000 in
set_option maxRecDepth 100000 in
theorem lc_compute (X : jX) (hX : jxok X) (s : Nat) (hs : s < 8) (k h : Int) (hk : num k) (hw : wayC h) (m : jM) (hC : CI m) : ConL X yL_compute cL_compute 6 (some .int) [(0, 12, 15, 13), (0, 12, 19, 15)] 13 [vR 2 38, vI s, vI k, vI h, vR 2 59] m (fun o m' => o = some (vI 0) ∧ ∃ m1 : jM, CW m s (fmark (m s) k (computeV (tat (m s) k) k h)) m1 ∧ m' = mset m1 59 0 (jnI ((computeV (tat (m s) k) k h)))) := by
  refine ConL.of hX (by decide) (Nat.le_of_ble_eq_true rfl) (fun F hF hQ => ?_)
  refine g_aload hF (by decide +kernel : decode cL_compute 0 = .ok (.aload 4, 2)) rfl ?_
  refine g_iconst hF (by decide +kernel : decode cL_compute 2 = .ok (.iconst 0, 1)) ?_
  refine g_aload_n hF (by decide +kernel : decode cL_compute 3 = .ok (.aload_n 0, 1)) rfl ?_
  refine g_iload_n hF (by decide +kernel : decode cL_compute 4 = .ok (.iload_n 1, 1)) rfl ?_
  refine g_iload_n hF (by decide +kernel : decode cL_compute 5 = .ok (.iload_n 2, 1)) rfl ?_
  refine g_iload_n hF (by decide +kernel : decode cL_compute 6 = .ok (.iload_n 3, 1)) rfl ?_
  refine g_callV hF lkL_39 (c_X4_compute X hX s hs k h hk hw m hC) (by decide +kernel : decode cL_compute 7 = .ok (.invokevirtual 39, 3)) (by decide) rfl rfl rfl rfl jok38 (Nat.le_of_ble_eq_true rfl) (fun v7 m7 h7 => ?_)
  obtain ⟨rfl, e7⟩ := h7
  refine g_i2lN hF (by decide +kernel : decode cL_compute 10 = .ok (.i2l, 1)) ?_
  refine g_lastore hF (by decide +kernel : decode cL_compute 11 = .ok (.lastore, 1)) ?_
  refine g_goto hF (tgt := 23) (by decide +kernel : decode cL_compute 12 = .ok (.goto 11, 3)) (by decide) ?_
  refine g_iconst hF (by decide +kernel : decode cL_compute 23 = .ok (.iconst 0, 1)) ?_
  refine g_ireturnL hF hQ (by decide +kernel : decode cL_compute 24 = .ok (.ireturn, 1)) ?_
  exact ⟨rfl, m7, e7, rfl⟩
set_option maxHeartbeats 4000000 in
set_option maxRecDepth 100000 in
theorem lxa_compute (X : jX) (hX : jxok X) (s : Int) (js : jr s) (k : Int) (jk : jr k) (h0 : Int) (jh0 : jr h0) (m : jM) (h : ¬ ((0 ≤ s ∧ s < 8))) : ConL X yL_compute cL_compute 6 (some .int) [(0, 12, 15, 13), (0, 12, 19, 15)] 13 [vR 2 38, vI s, vI k, vI h0, vR 2 59] m (fun o m' => o = some (vI 1) ∧ m' = m) := by
  refine ConL.of hX (by decide) (Nat.le_of_ble_eq_true rfl) (fun F hF hQ => ?_)
  refine g_aload hF (by decide +kernel : decode cL_compute 0 = .ok (.aload 4, 2)) rfl ?_
  refine g_iconst hF (by decide +kernel : decode cL_compute 2 = .ok (.iconst 0, 1)) ?_
  refine g_aload_n hF (by decide +kernel : decode cL_compute 3 = .ok (.aload_n 0, 1)) rfl ?_
  refine g_iload_n hF (by decide +kernel : decode cL_compute 4 = .ok (.iload_n 1, 1)) rfl ?_
  refine g_iload_n hF (by decide +kernel : decode cL_compute 5 = .ok (.iload_n 2, 1)) rfl ?_
  refine g_iload_n hF (by decide +kernel : decode cL_compute 6 = .ok (.iload_n 3, 1)) rfl ?_
  exact g_tryV hF hQ lkL_39 (xa_X4_compute X hX s js k jk h0 jh0 m h) (by decide +kernel : decode cL_compute 7 = .ok (.invokevirtual 39, 3)) (by decide) rfl rfl rfl rfl jok38 (Nat.le_of_ble_eq_true rfl) [] ⟨0, 12, 15, 13⟩ [⟨0, 12, 19, 15⟩] rfl (fun _ h => absurd h List.not_mem_nil) (by decide) (by decide) clL_13 cast_IndexOutOfBoundsException (i := 5) (la := 2) (Or.inr ⟨(by decide +kernel : decode cL_compute 15 = .ok (.astore 5, 2)), rfl⟩) (by decide) (by decide +kernel : decode cL_compute (15 + 2) = .ok (.iconst 1, 1)) (by decide +kernel : decode cL_compute (15 + 2 + 1) = .ok (.ireturn, 1)) (fun m9 h9 => ⟨rfl, h9⟩)
set_option maxHeartbeats 4000000 in
set_option maxRecDepth 100000 in
theorem lxb_compute (X : jX) (hX : jxok X) (s : Nat) (hs : s < 8) (k : Int) (jk : jr k) (h0 : Int) (jh0 : jr h0) (m : jM) (hC : CI m) (h : ¬ (num k ∧ wayC h0)) : ConL X yL_compute cL_compute 6 (some .int) [(0, 12, 15, 13), (0, 12, 19, 15)] 13 [vR 2 38, vI s, vI k, vI h0, vR 2 59] m (fun o m' => o = some (vI 2) ∧ m' = m) := by
  refine ConL.of hX (by decide) (Nat.le_of_ble_eq_true rfl) (fun F hF hQ => ?_)
  refine g_aload hF (by decide +kernel : decode cL_compute 0 = .ok (.aload 4, 2)) rfl ?_
  refine g_iconst hF (by decide +kernel : decode cL_compute 2 = .ok (.iconst 0, 1)) ?_
  refine g_aload_n hF (by decide +kernel : decode cL_compute 3 = .ok (.aload_n 0, 1)) rfl ?_
  refine g_iload_n hF (by decide +kernel : decode cL_compute 4 = .ok (.iload_n 1, 1)) rfl ?_
  refine g_iload_n hF (by decide +kernel : decode cL_compute 5 = .ok (.iload_n 2, 1)) rfl ?_
  refine g_iload_n hF (by decide +kernel : decode cL_compute 6 = .ok (.iload_n 3, 1)) rfl ?_
  exact g_tryV hF hQ lkL_39 (xb_X4_compute X hX s hs k jk h0 jh0 m hC h) (by decide +kernel : decode cL_compute 7 = .ok (.invokevirtual 39, 3)) (by decide) rfl rfl rfl rfl jok38 (Nat.le_of_ble_eq_true rfl) [⟨0, 12, 15, 13⟩] ⟨0, 12, 19, 15⟩ [] rfl (List.forall_mem_cons.mpr ⟨⟨by decide, "java/lang/IndexOutOfBoundsException", clL_13, by decide +kernel⟩, (fun _ h => absurd h List.not_mem_nil)⟩) (by decide) (by decide) clL_15 cast_IllegalArgumentException (i := 5) (la := 2) (Or.inr ⟨(by decide +kernel : decode cL_compute 19 = .ok (.astore 5, 2)), rfl⟩) (by decide) (by decide +kernel : decode cL_compute (19 + 2) = .ok (.iconst 2, 1)) (by decide +kernel : decode cL_compute (19 + 2 + 1) = .ok (.ireturn, 1)) (fun m9 h9 => ⟨rfl, h9⟩)
set_option maxHeartbeats 4000000 in
set_option maxRecDepth 100000 in
theorem lc_clear (X : jX) (hX : jxok X) (s : Nat) (hs : s < 8) (m : jM) (hC : CI m) : ConL X yL_clear cL_clear 4 (some .int) [(0, 9, 12, 13)] 13 [vR 2 38, vI s, vR 2 59] m (fun o m' => o = some (vI 0) ∧ ∃ m1 : jM, CW m s (fun _ => -2) m1 ∧ m' = mset m1 59 0 (jnI ((cnt (m s))))) := by
  refine ConL.of hX (by decide) (Nat.le_of_ble_eq_true rfl) (fun F hF hQ => ?_)
  refine g_aload_n hF (by decide +kernel : decode cL_clear 0 = .ok (.aload_n 2, 1)) rfl ?_
  refine g_iconst hF (by decide +kernel : decode cL_clear 1 = .ok (.iconst 0, 1)) ?_
  refine g_aload_n hF (by decide +kernel : decode cL_clear 2 = .ok (.aload_n 0, 1)) rfl ?_
  refine g_iload_n hF (by decide +kernel : decode cL_clear 3 = .ok (.iload_n 1, 1)) rfl ?_
  refine g_callV hF lkL_43 (c_X4_clear X hX s hs m hC) (by decide +kernel : decode cL_clear 4 = .ok (.invokevirtual 43, 3)) (by decide) rfl rfl rfl rfl jok38 (Nat.le_of_ble_eq_true rfl) (fun v4 m4 h4 => ?_)
  obtain ⟨rfl, e4⟩ := h4
  refine g_i2lN hF (by decide +kernel : decode cL_clear 7 = .ok (.i2l, 1)) ?_
  refine g_lastore hF (by decide +kernel : decode cL_clear 8 = .ok (.lastore, 1)) ?_
  refine g_goto hF (tgt := 15) (by decide +kernel : decode cL_clear 9 = .ok (.goto 6, 3)) (by decide) ?_
  refine g_iconst hF (by decide +kernel : decode cL_clear 15 = .ok (.iconst 0, 1)) ?_
  refine g_ireturnL hF hQ (by decide +kernel : decode cL_clear 16 = .ok (.ireturn, 1)) ?_
  exact ⟨rfl, m4, e4, rfl⟩
set_option maxHeartbeats 4000000 in
set_option maxRecDepth 100000 in
theorem lxa_clear (X : jX) (hX : jxok X) (s : Int) (js : jr s) (m : jM) (h : ¬ ((0 ≤ s ∧ s < 8))) : ConL X yL_clear cL_clear 4 (some .int) [(0, 9, 12, 13)] 13 [vR 2 38, vI s, vR 2 59] m (fun o m' => o = some (vI 1) ∧ m' = m) := by
  refine ConL.of hX (by decide) (Nat.le_of_ble_eq_true rfl) (fun F hF hQ => ?_)
  refine g_aload_n hF (by decide +kernel : decode cL_clear 0 = .ok (.aload_n 2, 1)) rfl ?_
  refine g_iconst hF (by decide +kernel : decode cL_clear 1 = .ok (.iconst 0, 1)) ?_
  refine g_aload_n hF (by decide +kernel : decode cL_clear 2 = .ok (.aload_n 0, 1)) rfl ?_
  refine g_iload_n hF (by decide +kernel : decode cL_clear 3 = .ok (.iload_n 1, 1)) rfl ?_
  exact g_tryV hF hQ lkL_43 (xa_X4_clear X hX s js m h) (by decide +kernel : decode cL_clear 4 = .ok (.invokevirtual 43, 3)) (by decide) rfl rfl rfl rfl jok38 (Nat.le_of_ble_eq_true rfl) [] ⟨0, 9, 12, 13⟩ [] rfl (fun _ h => absurd h List.not_mem_nil) (by decide) (by decide) clL_13 cast_IndexOutOfBoundsException (i := 3) (la := 1) (Or.inl ⟨3, (by decide +kernel : decode cL_clear 12 = .ok (.astore_n 3, 1)), rfl, rfl⟩) (by decide) (by decide +kernel : decode cL_clear (12 + 1) = .ok (.iconst 1, 1)) (by decide +kernel : decode cL_clear (12 + 1 + 1) = .ok (.ireturn, 1)) (fun m9 h9 => ⟨rfl, h9⟩)
set_option maxHeartbeats 4000000 in
set_option maxRecDepth 100000 in
theorem lc_get (X : jX) (hX : jxok X) (s : Nat) (hs : s < 8) (k : Int) (hk : num k) (m : jM) (hC : CI m) : ConL X yL_get cL_get 5 (some .int) [(0, 10, 13, 13), (0, 10, 17, 15)] 13 [vR 2 38, vI s, vI k, vR 2 59] m (fun o m' => o = some (vI 0) ∧ ∃ m1 : jM, CQ m m1 ∧ m' = mset m1 59 0 (jnI ((tat (m s) k)))) := by
  refine ConL.of hX (by decide) (Nat.le_of_ble_eq_true rfl) (fun F hF hQ => ?_)
  refine g_aload_n hF (by decide +kernel : decode cL_get 0 = .ok (.aload_n 3, 1)) rfl ?_
  refine g_iconst hF (by decide +kernel : decode cL_get 1 = .ok (.iconst 0, 1)) ?_
  refine g_aload_n hF (by decide +kernel : decode cL_get 2 = .ok (.aload_n 0, 1)) rfl ?_
  refine g_iload_n hF (by decide +kernel : decode cL_get 3 = .ok (.iload_n 1, 1)) rfl ?_
  refine g_iload_n hF (by decide +kernel : decode cL_get 4 = .ok (.iload_n 2, 1)) rfl ?_
  refine g_callV hF lkL_47 (c_X4_get X hX s hs k hk m hC) (by decide +kernel : decode cL_get 5 = .ok (.invokevirtual 47, 3)) (by decide) rfl rfl rfl rfl jok38 (Nat.le_of_ble_eq_true rfl) (fun v5 m5 h5 => ?_)
  obtain ⟨rfl, e5⟩ := h5
  refine g_i2lN hF (by decide +kernel : decode cL_get 8 = .ok (.i2l, 1)) ?_
  refine g_lastore hF (by decide +kernel : decode cL_get 9 = .ok (.lastore, 1)) ?_
  refine g_goto hF (tgt := 21) (by decide +kernel : decode cL_get 10 = .ok (.goto 11, 3)) (by decide) ?_
  refine g_iconst hF (by decide +kernel : decode cL_get 21 = .ok (.iconst 0, 1)) ?_
  refine g_ireturnL hF hQ (by decide +kernel : decode cL_get 22 = .ok (.ireturn, 1)) ?_
  exact ⟨rfl, m5, e5, rfl⟩
set_option maxHeartbeats 4000000 in
set_option maxRecDepth 100000 in
theorem lxa_get (X : jX) (hX : jxok X) (s : Int) (js : jr s) (k : Int) (jk : jr k) (m : jM) (h : ¬ ((0 ≤ s ∧ s < 8))) : ConL X yL_get cL_get 5 (some .int) [(0, 10, 13, 13), (0, 10, 17, 15)] 13 [vR 2 38, vI s, vI k, vR 2 59] m (fun o m' => o = some (vI 1) ∧ m' = m) := by
  refine ConL.of hX (by decide) (Nat.le_of_ble_eq_true rfl) (fun F hF hQ => ?_)
  refine g_aload_n hF (by decide +kernel : decode cL_get 0 = .ok (.aload_n 3, 1)) rfl ?_
  refine g_iconst hF (by decide +kernel : decode cL_get 1 = .ok (.iconst 0, 1)) ?_
  refine g_aload_n hF (by decide +kernel : decode cL_get 2 = .ok (.aload_n 0, 1)) rfl ?_
  refine g_iload_n hF (by decide +kernel : decode cL_get 3 = .ok (.iload_n 1, 1)) rfl ?_
  refine g_iload_n hF (by decide +kernel : decode cL_get 4 = .ok (.iload_n 2, 1)) rfl ?_
  exact g_tryV hF hQ lkL_47 (xa_X4_get X hX s js k jk m h) (by decide +kernel : decode cL_get 5 = .ok (.invokevirtual 47, 3)) (by decide) rfl rfl rfl rfl jok38 (Nat.le_of_ble_eq_true rfl) [] ⟨0, 10, 13, 13⟩ [⟨0, 10, 17, 15⟩] rfl (fun _ h => absurd h List.not_mem_nil) (by decide) (by decide) clL_13 cast_IndexOutOfBoundsException (i := 4) (la := 2) (Or.inr ⟨(by decide +kernel : decode cL_get 13 = .ok (.astore 4, 2)), rfl⟩) (by decide) (by decide +kernel : decode cL_get (13 + 2) = .ok (.iconst 1, 1)) (by decide +kernel : decode cL_get (13 + 2 + 1) = .ok (.ireturn, 1)) (fun m9 h9 => ⟨rfl, h9⟩)
set_option maxHeartbeats 4000000 in
set_option maxRecDepth 100000 in
theorem lxb_get (X : jX) (hX : jxok X) (s : Nat) (hs : s < 8) (k : Int) (jk : jr k) (m : jM) (hC : CI m) (h : ¬ (num k)) : ConL X yL_get cL_get 5 (some .int) [(0, 10, 13, 13), (0, 10, 17, 15)] 13 [vR 2 38, vI s, vI k, vR 2 59] m (fun o m' => o = some (vI 2) ∧ m' = m) := by
  refine ConL.of hX (by decide) (Nat.le_of_ble_eq_true rfl) (fun F hF hQ => ?_)
  refine g_aload_n hF (by decide +kernel : decode cL_get 0 = .ok (.aload_n 3, 1)) rfl ?_
  refine g_iconst hF (by decide +kernel : decode cL_get 1 = .ok (.iconst 0, 1)) ?_
  refine g_aload_n hF (by decide +kernel : decode cL_get 2 = .ok (.aload_n 0, 1)) rfl ?_
  refine g_iload_n hF (by decide +kernel : decode cL_get 3 = .ok (.iload_n 1, 1)) rfl ?_
  refine g_iload_n hF (by decide +kernel : decode cL_get 4 = .ok (.iload_n 2, 1)) rfl ?_
  exact g_tryV hF hQ lkL_47 (xb_X4_get X hX s hs k jk m hC h) (by decide +kernel : decode cL_get 5 = .ok (.invokevirtual 47, 3)) (by decide) rfl rfl rfl rfl jok38 (Nat.le_of_ble_eq_true rfl) [⟨0, 10, 13, 13⟩] ⟨0, 10, 17, 15⟩ [] rfl (List.forall_mem_cons.mpr ⟨⟨by decide, "java/lang/IndexOutOfBoundsException", clL_13, by decide +kernel⟩, (fun _ h => absurd h List.not_mem_nil)⟩) (by decide) (by decide) clL_15 cast_IllegalArgumentException (i := 4) (la := 2) (Or.inr ⟨(by decide +kernel : decode cL_get 17 = .ok (.astore 4, 2)), rfl⟩) (by decide) (by decide +kernel : decode cL_get (17 + 2) = .ok (.iconst 2, 1)) (by decide +kernel : decode cL_get (17 + 2 + 1) = .ok (.ireturn, 1)) (fun m9 h9 => ⟨rfl, h9⟩)
set_option maxHeartbeats 4000000 in
set_option maxRecDepth 100000 in
theorem lc_getOr (X : jX) (hX : jxok X) (s : Nat) (hs : s < 8) (k v : Int) (hk : num k) (hv : num v) (m : jM) (hC : CI m) : ConL X yL_getOr cL_getOr 6 (some .int) [(0, 12, 15, 13), (0, 12, 19, 15)] 13 [vR 2 38, vI s, vI k, vI v, vR 2 59] m (fun o m' => o = some (vI 0) ∧ ∃ m1 : jM, CQ m m1 ∧ m' = mset m1 59 0 (jnI ((if tat (m s) k = -2 then v else tat (m s) k)))) := by
  refine ConL.of hX (by decide) (Nat.le_of_ble_eq_true rfl) (fun F hF hQ => ?_)
  refine g_aload hF (by decide +kernel : decode cL_getOr 0 = .ok (.aload 4, 2)) rfl ?_
  refine g_iconst hF (by decide +kernel : decode cL_getOr 2 = .ok (.iconst 0, 1)) ?_
  refine g_aload_n hF (by decide +kernel : decode cL_getOr 3 = .ok (.aload_n 0, 1)) rfl ?_
  refine g_iload_n hF (by decide +kernel : decode cL_getOr 4 = .ok (.iload_n 1, 1)) rfl ?_
  refine g_iload_n hF (by decide +kernel : decode cL_getOr 5 = .ok (.iload_n 2, 1)) rfl ?_
  refine g_iload_n hF (by decide +kernel : decode cL_getOr 6 = .ok (.iload_n 3, 1)) rfl ?_
  refine g_callV hF lkL_50 (c_X4_getOr X hX s hs k v hk hv m hC) (by decide +kernel : decode cL_getOr 7 = .ok (.invokevirtual 50, 3)) (by decide) rfl rfl rfl rfl jok38 (Nat.le_of_ble_eq_true rfl) (fun v7 m7 h7 => ?_)
  obtain ⟨rfl, e7⟩ := h7
  refine g_i2lN hF (by decide +kernel : decode cL_getOr 10 = .ok (.i2l, 1)) ?_
  refine g_lastore hF (by decide +kernel : decode cL_getOr 11 = .ok (.lastore, 1)) ?_
  refine g_goto hF (tgt := 23) (by decide +kernel : decode cL_getOr 12 = .ok (.goto 11, 3)) (by decide) ?_
  refine g_iconst hF (by decide +kernel : decode cL_getOr 23 = .ok (.iconst 0, 1)) ?_
  refine g_ireturnL hF hQ (by decide +kernel : decode cL_getOr 24 = .ok (.ireturn, 1)) ?_
  exact ⟨rfl, m7, e7, rfl⟩
set_option maxHeartbeats 4000000 in
set_option maxRecDepth 100000 in
theorem lxa_getOr (X : jX) (hX : jxok X) (s : Int) (js : jr s) (k : Int) (jk : jr k) (v : Int) (jv : jr v) (m : jM) (h : ¬ ((0 ≤ s ∧ s < 8))) : ConL X yL_getOr cL_getOr 6 (some .int) [(0, 12, 15, 13), (0, 12, 19, 15)] 13 [vR 2 38, vI s, vI k, vI v, vR 2 59] m (fun o m' => o = some (vI 1) ∧ m' = m) := by
  refine ConL.of hX (by decide) (Nat.le_of_ble_eq_true rfl) (fun F hF hQ => ?_)
  refine g_aload hF (by decide +kernel : decode cL_getOr 0 = .ok (.aload 4, 2)) rfl ?_
  refine g_iconst hF (by decide +kernel : decode cL_getOr 2 = .ok (.iconst 0, 1)) ?_
  refine g_aload_n hF (by decide +kernel : decode cL_getOr 3 = .ok (.aload_n 0, 1)) rfl ?_
  refine g_iload_n hF (by decide +kernel : decode cL_getOr 4 = .ok (.iload_n 1, 1)) rfl ?_
  refine g_iload_n hF (by decide +kernel : decode cL_getOr 5 = .ok (.iload_n 2, 1)) rfl ?_
  refine g_iload_n hF (by decide +kernel : decode cL_getOr 6 = .ok (.iload_n 3, 1)) rfl ?_
  exact g_tryV hF hQ lkL_50 (xa_X4_getOr X hX s js k jk v jv m h) (by decide +kernel : decode cL_getOr 7 = .ok (.invokevirtual 50, 3)) (by decide) rfl rfl rfl rfl jok38 (Nat.le_of_ble_eq_true rfl) [] ⟨0, 12, 15, 13⟩ [⟨0, 12, 19, 15⟩] rfl (fun _ h => absurd h List.not_mem_nil) (by decide) (by decide) clL_13 cast_IndexOutOfBoundsException (i := 5) (la := 2) (Or.inr ⟨(by decide +kernel : decode cL_getOr 15 = .ok (.astore 5, 2)), rfl⟩) (by decide) (by decide +kernel : decode cL_getOr (15 + 2) = .ok (.iconst 1, 1)) (by decide +kernel : decode cL_getOr (15 + 2 + 1) = .ok (.ireturn, 1)) (fun m9 h9 => ⟨rfl, h9⟩)
set_option maxHeartbeats 4000000 in
set_option maxRecDepth 100000 in
theorem lxb_getOr (X : jX) (hX : jxok X) (s : Nat) (hs : s < 8) (k : Int) (jk : jr k) (v : Int) (jv : jr v) (m : jM) (hC : CI m) (h : ¬ (num k ∧ num v)) : ConL X yL_getOr cL_getOr 6 (some .int) [(0, 12, 15, 13), (0, 12, 19, 15)] 13 [vR 2 38, vI s, vI k, vI v, vR 2 59] m (fun o m' => o = some (vI 2) ∧ m' = m) := by
  refine ConL.of hX (by decide) (Nat.le_of_ble_eq_true rfl) (fun F hF hQ => ?_)
  refine g_aload hF (by decide +kernel : decode cL_getOr 0 = .ok (.aload 4, 2)) rfl ?_
  refine g_iconst hF (by decide +kernel : decode cL_getOr 2 = .ok (.iconst 0, 1)) ?_
  refine g_aload_n hF (by decide +kernel : decode cL_getOr 3 = .ok (.aload_n 0, 1)) rfl ?_
  refine g_iload_n hF (by decide +kernel : decode cL_getOr 4 = .ok (.iload_n 1, 1)) rfl ?_
  refine g_iload_n hF (by decide +kernel : decode cL_getOr 5 = .ok (.iload_n 2, 1)) rfl ?_
  refine g_iload_n hF (by decide +kernel : decode cL_getOr 6 = .ok (.iload_n 3, 1)) rfl ?_
  exact g_tryV hF hQ lkL_50 (xb_X4_getOr X hX s hs k jk v jv m hC h) (by decide +kernel : decode cL_getOr 7 = .ok (.invokevirtual 50, 3)) (by decide) rfl rfl rfl rfl jok38 (Nat.le_of_ble_eq_true rfl) [⟨0, 12, 15, 13⟩] ⟨0, 12, 19, 15⟩ [] rfl (List.forall_mem_cons.mpr ⟨⟨by decide, "java/lang/IndexOutOfBoundsException", clL_13, by decide +kernel⟩, (fun _ h => absurd h List.not_mem_nil)⟩) (by decide) (by decide) clL_15 cast_IllegalArgumentException (i := 5) (la := 2) (Or.inr ⟨(by decide +kernel : decode cL_getOr 19 = .ok (.astore 5, 2)), rfl⟩) (by decide) (by decide +kernel : decode cL_getOr (19 + 2) = .ok (.iconst 2, 1)) (by decide +kernel : decode cL_getOr (19 + 2 + 1) = .ok (.ireturn, 1)) (fun m9 h9 => ⟨rfl, h9⟩)
set_option maxHeartbeats 4000000 in
set_option maxRecDepth 100000 in
theorem lc_has (X : jX) (hX : jxok X) (s : Nat) (hs : s < 8) (k : Int) (hk : num k) (m : jM) (hC : CI m) : ConL X yL_has cL_has 5 (some .int) [(0, 17, 20, 13), (0, 17, 24, 15)] 13 [vR 2 38, vI s, vI k, vR 2 59] m (fun o m' => o = some (vI 0) ∧ ∃ m1 : jM, CQ m m1 ∧ m' = mset m1 59 0 ((if tat (m s) k = -2 then 0 else 1))) := by
  refine ConL.of hX (by decide) (Nat.le_of_ble_eq_true rfl) (fun F hF hQ => ?_)
  refine g_aload_n hF (by decide +kernel : decode cL_has 0 = .ok (.aload_n 3, 1)) rfl ?_
  refine g_iconst hF (by decide +kernel : decode cL_has 1 = .ok (.iconst 0, 1)) ?_
  refine g_aload_n hF (by decide +kernel : decode cL_has 2 = .ok (.aload_n 0, 1)) rfl ?_
  refine g_iload_n hF (by decide +kernel : decode cL_has 3 = .ok (.iload_n 1, 1)) rfl ?_
  refine g_iload_n hF (by decide +kernel : decode cL_has 4 = .ok (.iload_n 2, 1)) rfl ?_
  refine g_callV hF lkL_53 (c_X4_has X hX s hs k hk m hC) (by decide +kernel : decode cL_has 5 = .ok (.invokevirtual 53, 3)) (by decide) rfl rfl rfl rfl jok38 (Nat.le_of_ble_eq_true rfl) (fun v5 m5 h5 => ?_)
  obtain ⟨rfl, e5⟩ := h5
  have hb01 : (((if tat (m s) k = -2 then 0 else 1)) : Int) = 0 ∨ (((if tat (m s) k = -2 then 0 else 1)) : Int) = 1 := by first | exact bI_c _ | (split <;> omega)
  refine g_if_eq hF (tgt := 15) (by decide +kernel : decode cL_has 8 = .ok (.ifCond .eq 7, 3)) (by decide) (by rcases hb01 with e | e <;> rw [e] <;> decide) (fun c8 => ?_) (fun c8 => ?_)
  · skip
    refine g_lconst hF (by decide +kernel : decode cL_has 15 = .ok (.lconst 0, 1)) rfl ?_
    refine g_lastore hF (by decide +kernel : decode cL_has 16 = .ok (.lastore, 1)) ?_
    refine g_goto hF (tgt := 28) (by decide +kernel : decode cL_has 17 = .ok (.goto 11, 3)) (by decide) ?_
    refine g_iconst hF (by decide +kernel : decode cL_has 28 = .ok (.iconst 0, 1)) ?_
    refine g_ireturnL hF hQ (by decide +kernel : decode cL_has 29 = .ok (.ireturn, 1)) ?_
    refine ⟨rfl, m5, e5, ?_⟩
    first | (rw [c8]; done) | (rw [c8]; rfl)
  · skip
    refine g_lconst hF (by decide +kernel : decode cL_has 11 = .ok (.lconst 1, 1)) rfl ?_
    refine g_goto hF (tgt := 16) (by decide +kernel : decode cL_has 12 = .ok (.goto 4, 3)) (by decide) ?_
    refine g_lastore hF (by decide +kernel : decode cL_has 16 = .ok (.lastore, 1)) ?_
    refine g_goto hF (tgt := 28) (by decide +kernel : decode cL_has 17 = .ok (.goto 11, 3)) (by decide) ?_
    refine g_iconst hF (by decide +kernel : decode cL_has 28 = .ok (.iconst 0, 1)) ?_
    refine g_ireturnL hF hQ (by decide +kernel : decode cL_has 29 = .ok (.ireturn, 1)) ?_
    refine ⟨rfl, m5, e5, ?_⟩
    first | (rw [hb01.resolve_left c8]; done) | (rw [hb01.resolve_left c8]; rfl)
set_option maxHeartbeats 4000000 in
set_option maxRecDepth 100000 in
theorem lxa_has (X : jX) (hX : jxok X) (s : Int) (js : jr s) (k : Int) (jk : jr k) (m : jM) (h : ¬ ((0 ≤ s ∧ s < 8))) : ConL X yL_has cL_has 5 (some .int) [(0, 17, 20, 13), (0, 17, 24, 15)] 13 [vR 2 38, vI s, vI k, vR 2 59] m (fun o m' => o = some (vI 1) ∧ m' = m) := by
  refine ConL.of hX (by decide) (Nat.le_of_ble_eq_true rfl) (fun F hF hQ => ?_)
  refine g_aload_n hF (by decide +kernel : decode cL_has 0 = .ok (.aload_n 3, 1)) rfl ?_
  refine g_iconst hF (by decide +kernel : decode cL_has 1 = .ok (.iconst 0, 1)) ?_
  refine g_aload_n hF (by decide +kernel : decode cL_has 2 = .ok (.aload_n 0, 1)) rfl ?_
  refine g_iload_n hF (by decide +kernel : decode cL_has 3 = .ok (.iload_n 1, 1)) rfl ?_
  refine g_iload_n hF (by decide +kernel : decode cL_has 4 = .ok (.iload_n 2, 1)) rfl ?_
  exact g_tryV hF hQ lkL_53 (xa_X4_has X hX s js k jk m h) (by decide +kernel : decode cL_has 5 = .ok (.invokevirtual 53, 3)) (by decide) rfl rfl rfl rfl jok38 (Nat.le_of_ble_eq_true rfl) [] ⟨0, 17, 20, 13⟩ [⟨0, 17, 24, 15⟩] rfl (fun _ h => absurd h List.not_mem_nil) (by decide) (by decide) clL_13 cast_IndexOutOfBoundsException (i := 4) (la := 2) (Or.inr ⟨(by decide +kernel : decode cL_has 20 = .ok (.astore 4, 2)), rfl⟩) (by decide) (by decide +kernel : decode cL_has (20 + 2) = .ok (.iconst 1, 1)) (by decide +kernel : decode cL_has (20 + 2 + 1) = .ok (.ireturn, 1)) (fun m9 h9 => ⟨rfl, h9⟩)
set_option maxHeartbeats 4000000 in
set_option maxRecDepth 100000 in
theorem lxb_has (X : jX) (hX : jxok X) (s : Nat) (hs : s < 8) (k : Int) (jk : jr k) (m : jM) (hC : CI m) (h : ¬ (num k)) : ConL X yL_has cL_has 5 (some .int) [(0, 17, 20, 13), (0, 17, 24, 15)] 13 [vR 2 38, vI s, vI k, vR 2 59] m (fun o m' => o = some (vI 2) ∧ m' = m) := by
  refine ConL.of hX (by decide) (Nat.le_of_ble_eq_true rfl) (fun F hF hQ => ?_)
  refine g_aload_n hF (by decide +kernel : decode cL_has 0 = .ok (.aload_n 3, 1)) rfl ?_
  refine g_iconst hF (by decide +kernel : decode cL_has 1 = .ok (.iconst 0, 1)) ?_
  refine g_aload_n hF (by decide +kernel : decode cL_has 2 = .ok (.aload_n 0, 1)) rfl ?_
  refine g_iload_n hF (by decide +kernel : decode cL_has 3 = .ok (.iload_n 1, 1)) rfl ?_
  refine g_iload_n hF (by decide +kernel : decode cL_has 4 = .ok (.iload_n 2, 1)) rfl ?_
  exact g_tryV hF hQ lkL_53 (xb_X4_has X hX s hs k jk m hC h) (by decide +kernel : decode cL_has 5 = .ok (.invokevirtual 53, 3)) (by decide) rfl rfl rfl rfl jok38 (Nat.le_of_ble_eq_true rfl) [⟨0, 17, 20, 13⟩] ⟨0, 17, 24, 15⟩ [] rfl (List.forall_mem_cons.mpr ⟨⟨by decide, "java/lang/IndexOutOfBoundsException", clL_13, by decide +kernel⟩, (fun _ h => absurd h List.not_mem_nil)⟩) (by decide) (by decide) clL_15 cast_IllegalArgumentException (i := 4) (la := 2) (Or.inr ⟨(by decide +kernel : decode cL_has 24 = .ok (.astore 4, 2)), rfl⟩) (by decide) (by decide +kernel : decode cL_has (24 + 2) = .ok (.iconst 2, 1)) (by decide +kernel : decode cL_has (24 + 2 + 1) = .ok (.ireturn, 1)) (fun m9 h9 => ⟨rfl, h9⟩)
set_option maxHeartbeats 4000000 in
set_option maxRecDepth 100000 in
theorem lc_hasValue (X : jX) (hX : jxok X) (s : Nat) (hs : s < 8) (v : Int) (hv : num v) (m : jM) (hC : CI m) : ConL X yL_hasValue cL_hasValue 5 (some .int) [(0, 17, 20, 13), (0, 17, 24, 15)] 13 [vR 2 38, vI s, vI v, vR 2 59] m (fun o m' => o = some (vI 0) ∧ ∃ m1 : jM, CQ m m1 ∧ m' = mset m1 59 0 ((if 0 < mult (m s) v then 1 else 0))) := by
  refine ConL.of hX (by decide) (Nat.le_of_ble_eq_true rfl) (fun F hF hQ => ?_)
  refine g_aload_n hF (by decide +kernel : decode cL_hasValue 0 = .ok (.aload_n 3, 1)) rfl ?_
  refine g_iconst hF (by decide +kernel : decode cL_hasValue 1 = .ok (.iconst 0, 1)) ?_
  refine g_aload_n hF (by decide +kernel : decode cL_hasValue 2 = .ok (.aload_n 0, 1)) rfl ?_
  refine g_iload_n hF (by decide +kernel : decode cL_hasValue 3 = .ok (.iload_n 1, 1)) rfl ?_
  refine g_iload_n hF (by decide +kernel : decode cL_hasValue 4 = .ok (.iload_n 2, 1)) rfl ?_
  refine g_callV hF lkL_57 (c_X4_hasValue X hX s hs v hv m hC) (by decide +kernel : decode cL_hasValue 5 = .ok (.invokevirtual 57, 3)) (by decide) rfl rfl rfl rfl jok38 (Nat.le_of_ble_eq_true rfl) (fun v5 m5 h5 => ?_)
  obtain ⟨rfl, e5⟩ := h5
  have hb01 : (((if 0 < mult (m s) v then 1 else 0)) : Int) = 0 ∨ (((if 0 < mult (m s) v then 1 else 0)) : Int) = 1 := by first | exact bI_c _ | (split <;> omega)
  refine g_if_eq hF (tgt := 15) (by decide +kernel : decode cL_hasValue 8 = .ok (.ifCond .eq 7, 3)) (by decide) (by rcases hb01 with e | e <;> rw [e] <;> decide) (fun c8 => ?_) (fun c8 => ?_)
  · skip
    refine g_lconst hF (by decide +kernel : decode cL_hasValue 15 = .ok (.lconst 0, 1)) rfl ?_
    refine g_lastore hF (by decide +kernel : decode cL_hasValue 16 = .ok (.lastore, 1)) ?_
    refine g_goto hF (tgt := 28) (by decide +kernel : decode cL_hasValue 17 = .ok (.goto 11, 3)) (by decide) ?_
    refine g_iconst hF (by decide +kernel : decode cL_hasValue 28 = .ok (.iconst 0, 1)) ?_
    refine g_ireturnL hF hQ (by decide +kernel : decode cL_hasValue 29 = .ok (.ireturn, 1)) ?_
    refine ⟨rfl, m5, e5, ?_⟩
    first | (rw [c8]; done) | (rw [c8]; rfl)
  · skip
    refine g_lconst hF (by decide +kernel : decode cL_hasValue 11 = .ok (.lconst 1, 1)) rfl ?_
    refine g_goto hF (tgt := 16) (by decide +kernel : decode cL_hasValue 12 = .ok (.goto 4, 3)) (by decide) ?_
    refine g_lastore hF (by decide +kernel : decode cL_hasValue 16 = .ok (.lastore, 1)) ?_
    refine g_goto hF (tgt := 28) (by decide +kernel : decode cL_hasValue 17 = .ok (.goto 11, 3)) (by decide) ?_
    refine g_iconst hF (by decide +kernel : decode cL_hasValue 28 = .ok (.iconst 0, 1)) ?_
    refine g_ireturnL hF hQ (by decide +kernel : decode cL_hasValue 29 = .ok (.ireturn, 1)) ?_
    refine ⟨rfl, m5, e5, ?_⟩
    first | (rw [hb01.resolve_left c8]; done) | (rw [hb01.resolve_left c8]; rfl)
set_option maxHeartbeats 4000000 in
set_option maxRecDepth 100000 in
theorem lxa_hasValue (X : jX) (hX : jxok X) (s : Int) (js : jr s) (v : Int) (jv : jr v) (m : jM) (h : ¬ ((0 ≤ s ∧ s < 8))) : ConL X yL_hasValue cL_hasValue 5 (some .int) [(0, 17, 20, 13), (0, 17, 24, 15)] 13 [vR 2 38, vI s, vI v, vR 2 59] m (fun o m' => o = some (vI 1) ∧ m' = m) := by
  refine ConL.of hX (by decide) (Nat.le_of_ble_eq_true rfl) (fun F hF hQ => ?_)
  refine g_aload_n hF (by decide +kernel : decode cL_hasValue 0 = .ok (.aload_n 3, 1)) rfl ?_
  refine g_iconst hF (by decide +kernel : decode cL_hasValue 1 = .ok (.iconst 0, 1)) ?_
  refine g_aload_n hF (by decide +kernel : decode cL_hasValue 2 = .ok (.aload_n 0, 1)) rfl ?_
  refine g_iload_n hF (by decide +kernel : decode cL_hasValue 3 = .ok (.iload_n 1, 1)) rfl ?_
  refine g_iload_n hF (by decide +kernel : decode cL_hasValue 4 = .ok (.iload_n 2, 1)) rfl ?_
  exact g_tryV hF hQ lkL_57 (xa_X4_hasValue X hX s js v jv m h) (by decide +kernel : decode cL_hasValue 5 = .ok (.invokevirtual 57, 3)) (by decide) rfl rfl rfl rfl jok38 (Nat.le_of_ble_eq_true rfl) [] ⟨0, 17, 20, 13⟩ [⟨0, 17, 24, 15⟩] rfl (fun _ h => absurd h List.not_mem_nil) (by decide) (by decide) clL_13 cast_IndexOutOfBoundsException (i := 4) (la := 2) (Or.inr ⟨(by decide +kernel : decode cL_hasValue 20 = .ok (.astore 4, 2)), rfl⟩) (by decide) (by decide +kernel : decode cL_hasValue (20 + 2) = .ok (.iconst 1, 1)) (by decide +kernel : decode cL_hasValue (20 + 2 + 1) = .ok (.ireturn, 1)) (fun m9 h9 => ⟨rfl, h9⟩)
set_option maxHeartbeats 4000000 in
set_option maxRecDepth 100000 in
theorem lxb_hasValue (X : jX) (hX : jxok X) (s : Nat) (hs : s < 8) (v : Int) (jv : jr v) (m : jM) (hC : CI m) (h : ¬ (num v)) : ConL X yL_hasValue cL_hasValue 5 (some .int) [(0, 17, 20, 13), (0, 17, 24, 15)] 13 [vR 2 38, vI s, vI v, vR 2 59] m (fun o m' => o = some (vI 2) ∧ m' = m) := by
  refine ConL.of hX (by decide) (Nat.le_of_ble_eq_true rfl) (fun F hF hQ => ?_)
  refine g_aload_n hF (by decide +kernel : decode cL_hasValue 0 = .ok (.aload_n 3, 1)) rfl ?_
  refine g_iconst hF (by decide +kernel : decode cL_hasValue 1 = .ok (.iconst 0, 1)) ?_
  refine g_aload_n hF (by decide +kernel : decode cL_hasValue 2 = .ok (.aload_n 0, 1)) rfl ?_
  refine g_iload_n hF (by decide +kernel : decode cL_hasValue 3 = .ok (.iload_n 1, 1)) rfl ?_
  refine g_iload_n hF (by decide +kernel : decode cL_hasValue 4 = .ok (.iload_n 2, 1)) rfl ?_
  exact g_tryV hF hQ lkL_57 (xb_X4_hasValue X hX s hs v jv m hC h) (by decide +kernel : decode cL_hasValue 5 = .ok (.invokevirtual 57, 3)) (by decide) rfl rfl rfl rfl jok38 (Nat.le_of_ble_eq_true rfl) [⟨0, 17, 20, 13⟩] ⟨0, 17, 24, 15⟩ [] rfl (List.forall_mem_cons.mpr ⟨⟨by decide, "java/lang/IndexOutOfBoundsException", clL_13, by decide +kernel⟩, (fun _ h => absurd h List.not_mem_nil)⟩) (by decide) (by decide) clL_15 cast_IllegalArgumentException (i := 4) (la := 2) (Or.inr ⟨(by decide +kernel : decode cL_hasValue 24 = .ok (.astore 4, 2)), rfl⟩) (by decide) (by decide +kernel : decode cL_hasValue (24 + 2) = .ok (.iconst 2, 1)) (by decide +kernel : decode cL_hasValue (24 + 2 + 1) = .ok (.ireturn, 1)) (fun m9 h9 => ⟨rfl, h9⟩)
set_option maxHeartbeats 4000000 in
set_option maxRecDepth 100000 in
theorem lc_size (X : jX) (hX : jxok X) (s : Nat) (hs : s < 8) (m : jM) (hC : CI m) : ConL X yL_size cL_size 4 (some .int) [(0, 9, 12, 13)] 13 [vR 2 38, vI s, vR 2 59] m (fun o m' => o = some (vI 0) ∧ ∃ m1 : jM, CQ m m1 ∧ m' = mset m1 59 0 (jnI ((cnt (m s))))) := by
  refine ConL.of hX (by decide) (Nat.le_of_ble_eq_true rfl) (fun F hF hQ => ?_)
  refine g_aload_n hF (by decide +kernel : decode cL_size 0 = .ok (.aload_n 2, 1)) rfl ?_
  refine g_iconst hF (by decide +kernel : decode cL_size 1 = .ok (.iconst 0, 1)) ?_
  refine g_aload_n hF (by decide +kernel : decode cL_size 2 = .ok (.aload_n 0, 1)) rfl ?_
  refine g_iload_n hF (by decide +kernel : decode cL_size 3 = .ok (.iload_n 1, 1)) rfl ?_
  refine g_callV hF lkL_60 (c_X4_size X hX s hs m hC) (by decide +kernel : decode cL_size 4 = .ok (.invokevirtual 60, 3)) (by decide) rfl rfl rfl rfl jok38 (Nat.le_of_ble_eq_true rfl) (fun v4 m4 h4 => ?_)
  obtain ⟨rfl, e4⟩ := h4
  refine g_i2lN hF (by decide +kernel : decode cL_size 7 = .ok (.i2l, 1)) ?_
  refine g_lastore hF (by decide +kernel : decode cL_size 8 = .ok (.lastore, 1)) ?_
  refine g_goto hF (tgt := 15) (by decide +kernel : decode cL_size 9 = .ok (.goto 6, 3)) (by decide) ?_
  refine g_iconst hF (by decide +kernel : decode cL_size 15 = .ok (.iconst 0, 1)) ?_
  refine g_ireturnL hF hQ (by decide +kernel : decode cL_size 16 = .ok (.ireturn, 1)) ?_
  exact ⟨rfl, m4, e4, rfl⟩
set_option maxHeartbeats 4000000 in
set_option maxRecDepth 100000 in
theorem lxa_size (X : jX) (hX : jxok X) (s : Int) (js : jr s) (m : jM) (h : ¬ ((0 ≤ s ∧ s < 8))) : ConL X yL_size cL_size 4 (some .int) [(0, 9, 12, 13)] 13 [vR 2 38, vI s, vR 2 59] m (fun o m' => o = some (vI 1) ∧ m' = m) := by
  refine ConL.of hX (by decide) (Nat.le_of_ble_eq_true rfl) (fun F hF hQ => ?_)
  refine g_aload_n hF (by decide +kernel : decode cL_size 0 = .ok (.aload_n 2, 1)) rfl ?_
  refine g_iconst hF (by decide +kernel : decode cL_size 1 = .ok (.iconst 0, 1)) ?_
  refine g_aload_n hF (by decide +kernel : decode cL_size 2 = .ok (.aload_n 0, 1)) rfl ?_
  refine g_iload_n hF (by decide +kernel : decode cL_size 3 = .ok (.iload_n 1, 1)) rfl ?_
  exact g_tryV hF hQ lkL_60 (xa_X4_size X hX s js m h) (by decide +kernel : decode cL_size 4 = .ok (.invokevirtual 60, 3)) (by decide) rfl rfl rfl rfl jok38 (Nat.le_of_ble_eq_true rfl) [] ⟨0, 9, 12, 13⟩ [] rfl (fun _ h => absurd h List.not_mem_nil) (by decide) (by decide) clL_13 cast_IndexOutOfBoundsException (i := 3) (la := 1) (Or.inl ⟨3, (by decide +kernel : decode cL_size 12 = .ok (.astore_n 3, 1)), rfl, rfl⟩) (by decide) (by decide +kernel : decode cL_size (12 + 1) = .ok (.iconst 1, 1)) (by decide +kernel : decode cL_size (12 + 1 + 1) = .ok (.ireturn, 1)) (fun m9 h9 => ⟨rfl, h9⟩)
set_option maxHeartbeats 4000000 in
set_option maxRecDepth 100000 in
theorem lc_kinds (X : jX) (hX : jxok X) (s : Nat) (hs : s < 8) (m : jM) (hC : CI m) : ConL X yL_kinds cL_kinds 4 (some .int) [(0, 9, 12, 13)] 13 [vR 2 38, vI s, vR 2 59] m (fun o m' => o = some (vI 0) ∧ ∃ m1 : jM, CQ m m1 ∧ m' = mset m1 59 0 (jnI ((kindsV (m s))))) := by
  refine ConL.of hX (by decide) (Nat.le_of_ble_eq_true rfl) (fun F hF hQ => ?_)
  refine g_aload_n hF (by decide +kernel : decode cL_kinds 0 = .ok (.aload_n 2, 1)) rfl ?_
  refine g_iconst hF (by decide +kernel : decode cL_kinds 1 = .ok (.iconst 0, 1)) ?_
  refine g_aload_n hF (by decide +kernel : decode cL_kinds 2 = .ok (.aload_n 0, 1)) rfl ?_
  refine g_iload_n hF (by decide +kernel : decode cL_kinds 3 = .ok (.iload_n 1, 1)) rfl ?_
  refine g_callV hF lkL_63 (c_X4_kinds X hX s hs m hC) (by decide +kernel : decode cL_kinds 4 = .ok (.invokevirtual 63, 3)) (by decide) rfl rfl rfl rfl jok38 (Nat.le_of_ble_eq_true rfl) (fun v4 m4 h4 => ?_)
  obtain ⟨rfl, e4⟩ := h4
  refine g_i2lN hF (by decide +kernel : decode cL_kinds 7 = .ok (.i2l, 1)) ?_
  refine g_lastore hF (by decide +kernel : decode cL_kinds 8 = .ok (.lastore, 1)) ?_
  refine g_goto hF (tgt := 15) (by decide +kernel : decode cL_kinds 9 = .ok (.goto 6, 3)) (by decide) ?_
  refine g_iconst hF (by decide +kernel : decode cL_kinds 15 = .ok (.iconst 0, 1)) ?_
  refine g_ireturnL hF hQ (by decide +kernel : decode cL_kinds 16 = .ok (.ireturn, 1)) ?_
  exact ⟨rfl, m4, e4, rfl⟩
set_option maxHeartbeats 4000000 in
set_option maxRecDepth 100000 in
theorem lxa_kinds (X : jX) (hX : jxok X) (s : Int) (js : jr s) (m : jM) (h : ¬ ((0 ≤ s ∧ s < 8))) : ConL X yL_kinds cL_kinds 4 (some .int) [(0, 9, 12, 13)] 13 [vR 2 38, vI s, vR 2 59] m (fun o m' => o = some (vI 1) ∧ m' = m) := by
  refine ConL.of hX (by decide) (Nat.le_of_ble_eq_true rfl) (fun F hF hQ => ?_)
  refine g_aload_n hF (by decide +kernel : decode cL_kinds 0 = .ok (.aload_n 2, 1)) rfl ?_
  refine g_iconst hF (by decide +kernel : decode cL_kinds 1 = .ok (.iconst 0, 1)) ?_
  refine g_aload_n hF (by decide +kernel : decode cL_kinds 2 = .ok (.aload_n 0, 1)) rfl ?_
  refine g_iload_n hF (by decide +kernel : decode cL_kinds 3 = .ok (.iload_n 1, 1)) rfl ?_
  exact g_tryV hF hQ lkL_63 (xa_X4_kinds X hX s js m h) (by decide +kernel : decode cL_kinds 4 = .ok (.invokevirtual 63, 3)) (by decide) rfl rfl rfl rfl jok38 (Nat.le_of_ble_eq_true rfl) [] ⟨0, 9, 12, 13⟩ [] rfl (fun _ h => absurd h List.not_mem_nil) (by decide) (by decide) clL_13 cast_IndexOutOfBoundsException (i := 3) (la := 1) (Or.inl ⟨3, (by decide +kernel : decode cL_kinds 12 = .ok (.astore_n 3, 1)), rfl, rfl⟩) (by decide) (by decide +kernel : decode cL_kinds (12 + 1) = .ok (.iconst 1, 1)) (by decide +kernel : decode cL_kinds (12 + 1 + 1) = .ok (.ireturn, 1)) (fun m9 h9 => ⟨rfl, h9⟩)
set_option maxHeartbeats 4000000 in
set_option maxRecDepth 100000 in
theorem lc_keyAt (X : jX) (hX : jxok X) (s : Nat) (hs : s < 8) (p : Int) (m : jM) (hC : CI m) (hp : 0 ≤ p ∧ p < cnt (m s)) : ConL X yL_keyAt cL_keyAt 5 (some .int) [(0, 10, 13, 13), (0, 10, 17, 69)] 13 [vR 2 38, vI s, vI p, vR 2 59] m (fun o m' => o = some (vI 0) ∧ ∃ m1 : jM, CQ m m1 ∧ m' = mset m1 59 0 (jnI ((nthK (m s) p)))) := by
  refine ConL.of hX (by decide) (Nat.le_of_ble_eq_true rfl) (fun F hF hQ => ?_)
  refine g_aload_n hF (by decide +kernel : decode cL_keyAt 0 = .ok (.aload_n 3, 1)) rfl ?_
  refine g_iconst hF (by decide +kernel : decode cL_keyAt 1 = .ok (.iconst 0, 1)) ?_
  refine g_aload_n hF (by decide +kernel : decode cL_keyAt 2 = .ok (.aload_n 0, 1)) rfl ?_
  refine g_iload_n hF (by decide +kernel : decode cL_keyAt 3 = .ok (.iload_n 1, 1)) rfl ?_
  refine g_iload_n hF (by decide +kernel : decode cL_keyAt 4 = .ok (.iload_n 2, 1)) rfl ?_
  refine g_callV hF lkL_66 (c_X4_keyAt X hX s hs p m hC hp) (by decide +kernel : decode cL_keyAt 5 = .ok (.invokevirtual 66, 3)) (by decide) rfl rfl rfl rfl jok38 (Nat.le_of_ble_eq_true rfl) (fun v5 m5 h5 => ?_)
  obtain ⟨rfl, e5⟩ := h5
  refine g_i2lN hF (by decide +kernel : decode cL_keyAt 8 = .ok (.i2l, 1)) ?_
  refine g_lastore hF (by decide +kernel : decode cL_keyAt 9 = .ok (.lastore, 1)) ?_
  refine g_goto hF (tgt := 21) (by decide +kernel : decode cL_keyAt 10 = .ok (.goto 11, 3)) (by decide) ?_
  refine g_iconst hF (by decide +kernel : decode cL_keyAt 21 = .ok (.iconst 0, 1)) ?_
  refine g_ireturnL hF hQ (by decide +kernel : decode cL_keyAt 22 = .ok (.ireturn, 1)) ?_
  exact ⟨rfl, m5, e5, rfl⟩
set_option maxHeartbeats 4000000 in
set_option maxRecDepth 100000 in
theorem lxa_keyAt (X : jX) (hX : jxok X) (s : Int) (js : jr s) (p : Int) (jp : jr p) (m : jM) (h : ¬ ((0 ≤ s ∧ s < 8))) : ConL X yL_keyAt cL_keyAt 5 (some .int) [(0, 10, 13, 13), (0, 10, 17, 69)] 13 [vR 2 38, vI s, vI p, vR 2 59] m (fun o m' => o = some (vI 1) ∧ m' = m) := by
  refine ConL.of hX (by decide) (Nat.le_of_ble_eq_true rfl) (fun F hF hQ => ?_)
  refine g_aload_n hF (by decide +kernel : decode cL_keyAt 0 = .ok (.aload_n 3, 1)) rfl ?_
  refine g_iconst hF (by decide +kernel : decode cL_keyAt 1 = .ok (.iconst 0, 1)) ?_
  refine g_aload_n hF (by decide +kernel : decode cL_keyAt 2 = .ok (.aload_n 0, 1)) rfl ?_
  refine g_iload_n hF (by decide +kernel : decode cL_keyAt 3 = .ok (.iload_n 1, 1)) rfl ?_
  refine g_iload_n hF (by decide +kernel : decode cL_keyAt 4 = .ok (.iload_n 2, 1)) rfl ?_
  exact g_tryV hF hQ lkL_66 (xa_X4_keyAt X hX s js p jp m h) (by decide +kernel : decode cL_keyAt 5 = .ok (.invokevirtual 66, 3)) (by decide) rfl rfl rfl rfl jok38 (Nat.le_of_ble_eq_true rfl) [] ⟨0, 10, 13, 13⟩ [⟨0, 10, 17, 69⟩] rfl (fun _ h => absurd h List.not_mem_nil) (by decide) (by decide) clL_13 cast_IndexOutOfBoundsException (i := 4) (la := 2) (Or.inr ⟨(by decide +kernel : decode cL_keyAt 13 = .ok (.astore 4, 2)), rfl⟩) (by decide) (by decide +kernel : decode cL_keyAt (13 + 2) = .ok (.iconst 1, 1)) (by decide +kernel : decode cL_keyAt (13 + 2 + 1) = .ok (.ireturn, 1)) (fun m9 h9 => ⟨rfl, h9⟩)
set_option maxHeartbeats 4000000 in
set_option maxRecDepth 100000 in
theorem lxb_keyAt (X : jX) (hX : jxok X) (s : Nat) (hs : s < 8) (p : Int) (jp : jr p) (m : jM) (hC : CI m) (h : ¬ (0 ≤ p ∧ p < cnt (m s))) : ConL X yL_keyAt cL_keyAt 5 (some .int) [(0, 10, 13, 13), (0, 10, 17, 69)] 13 [vR 2 38, vI s, vI p, vR 2 59] m (fun o m' => o = some (vI 2) ∧ m' = m) := by
  refine ConL.of hX (by decide) (Nat.le_of_ble_eq_true rfl) (fun F hF hQ => ?_)
  refine g_aload_n hF (by decide +kernel : decode cL_keyAt 0 = .ok (.aload_n 3, 1)) rfl ?_
  refine g_iconst hF (by decide +kernel : decode cL_keyAt 1 = .ok (.iconst 0, 1)) ?_
  refine g_aload_n hF (by decide +kernel : decode cL_keyAt 2 = .ok (.aload_n 0, 1)) rfl ?_
  refine g_iload_n hF (by decide +kernel : decode cL_keyAt 3 = .ok (.iload_n 1, 1)) rfl ?_
  refine g_iload_n hF (by decide +kernel : decode cL_keyAt 4 = .ok (.iload_n 2, 1)) rfl ?_
  exact g_tryV hF hQ lkL_66 (xb_X4_keyAt X hX s hs p jp m hC h) (by decide +kernel : decode cL_keyAt 5 = .ok (.invokevirtual 66, 3)) (by decide) rfl rfl rfl rfl jok38 (Nat.le_of_ble_eq_true rfl) [⟨0, 10, 13, 13⟩] ⟨0, 10, 17, 69⟩ [] rfl (List.forall_mem_cons.mpr ⟨⟨by decide, "java/lang/IndexOutOfBoundsException", clL_13, by decide +kernel⟩, (fun _ h => absurd h List.not_mem_nil)⟩) (by decide) (by decide) clL_69 cast_NoSuchElementException (i := 4) (la := 2) (Or.inr ⟨(by decide +kernel : decode cL_keyAt 17 = .ok (.astore 4, 2)), rfl⟩) (by decide) (by decide +kernel : decode cL_keyAt (17 + 2) = .ok (.iconst 2, 1)) (by decide +kernel : decode cL_keyAt (17 + 2 + 1) = .ok (.ireturn, 1)) (fun m9 h9 => ⟨rfl, h9⟩)
set_option maxHeartbeats 4000000 in
set_option maxRecDepth 100000 in
theorem lc_isSame (X : jX) (hX : jxok X) (s : Nat) (hs : s < 8) (u : Nat) (hu : u < 8) (m : jM) (hC : CI m) : ConL X yL_isSame cL_isSame 5 (some .int) [(0, 17, 20, 13)] 13 [vR 2 38, vI s, vI u, vR 2 59] m (fun o m' => o = some (vI 0) ∧ ∃ m1 : jM, CQ m m1 ∧ m' = mset m1 59 0 ((bI (eqR (m s) (m u))))) := by
  refine ConL.of hX (by decide) (Nat.le_of_ble_eq_true rfl) (fun F hF hQ => ?_)
  refine g_aload_n hF (by decide +kernel : decode cL_isSame 0 = .ok (.aload_n 3, 1)) rfl ?_
  refine g_iconst hF (by decide +kernel : decode cL_isSame 1 = .ok (.iconst 0, 1)) ?_
  refine g_aload_n hF (by decide +kernel : decode cL_isSame 2 = .ok (.aload_n 0, 1)) rfl ?_
  refine g_iload_n hF (by decide +kernel : decode cL_isSame 3 = .ok (.iload_n 1, 1)) rfl ?_
  refine g_iload_n hF (by decide +kernel : decode cL_isSame 4 = .ok (.iload_n 2, 1)) rfl ?_
  refine g_callV hF lkL_71 (c_X4_isSame X hX s hs u hu m hC) (by decide +kernel : decode cL_isSame 5 = .ok (.invokevirtual 71, 3)) (by decide) rfl rfl rfl rfl jok38 (Nat.le_of_ble_eq_true rfl) (fun v5 m5 h5 => ?_)
  obtain ⟨rfl, e5⟩ := h5
  have hb01 : (((bI (eqR (m s) (m u)))) : Int) = 0 ∨ (((bI (eqR (m s) (m u)))) : Int) = 1 := by first | exact bI_c _ | (split <;> omega)
  refine g_if_eq hF (tgt := 15) (by decide +kernel : decode cL_isSame 8 = .ok (.ifCond .eq 7, 3)) (by decide) (by rcases hb01 with e | e <;> rw [e] <;> decide) (fun c8 => ?_) (fun c8 => ?_)
  · skip
    refine g_lconst hF (by decide +kernel : decode cL_isSame 15 = .ok (.lconst 0, 1)) rfl ?_
    refine g_lastore hF (by decide +kernel : decode cL_isSame 16 = .ok (.lastore, 1)) ?_
    refine g_goto hF (tgt := 24) (by decide +kernel : decode cL_isSame 17 = .ok (.goto 7, 3)) (by decide) ?_
    refine g_iconst hF (by decide +kernel : decode cL_isSame 24 = .ok (.iconst 0, 1)) ?_
    refine g_ireturnL hF hQ (by decide +kernel : decode cL_isSame 25 = .ok (.ireturn, 1)) ?_
    refine ⟨rfl, m5, e5, ?_⟩
    first | (rw [c8]; done) | (rw [c8]; rfl)
  · skip
    refine g_lconst hF (by decide +kernel : decode cL_isSame 11 = .ok (.lconst 1, 1)) rfl ?_
    refine g_goto hF (tgt := 16) (by decide +kernel : decode cL_isSame 12 = .ok (.goto 4, 3)) (by decide) ?_
    refine g_lastore hF (by decide +kernel : decode cL_isSame 16 = .ok (.lastore, 1)) ?_
    refine g_goto hF (tgt := 24) (by decide +kernel : decode cL_isSame 17 = .ok (.goto 7, 3)) (by decide) ?_
    refine g_iconst hF (by decide +kernel : decode cL_isSame 24 = .ok (.iconst 0, 1)) ?_
    refine g_ireturnL hF hQ (by decide +kernel : decode cL_isSame 25 = .ok (.ireturn, 1)) ?_
    refine ⟨rfl, m5, e5, ?_⟩
    first | (rw [hb01.resolve_left c8]; done) | (rw [hb01.resolve_left c8]; rfl)
set_option maxHeartbeats 4000000 in
set_option maxRecDepth 100000 in
theorem lxa_isSame (X : jX) (hX : jxok X) (s : Int) (js : jr s) (u : Int) (ju : jr u) (m : jM) (h : ¬ ((0 ≤ s ∧ s < 8) ∧ (0 ≤ u ∧ u < 8))) : ConL X yL_isSame cL_isSame 5 (some .int) [(0, 17, 20, 13)] 13 [vR 2 38, vI s, vI u, vR 2 59] m (fun o m' => o = some (vI 1) ∧ m' = m) := by
  refine ConL.of hX (by decide) (Nat.le_of_ble_eq_true rfl) (fun F hF hQ => ?_)
  refine g_aload_n hF (by decide +kernel : decode cL_isSame 0 = .ok (.aload_n 3, 1)) rfl ?_
  refine g_iconst hF (by decide +kernel : decode cL_isSame 1 = .ok (.iconst 0, 1)) ?_
  refine g_aload_n hF (by decide +kernel : decode cL_isSame 2 = .ok (.aload_n 0, 1)) rfl ?_
  refine g_iload_n hF (by decide +kernel : decode cL_isSame 3 = .ok (.iload_n 1, 1)) rfl ?_
  refine g_iload_n hF (by decide +kernel : decode cL_isSame 4 = .ok (.iload_n 2, 1)) rfl ?_
  exact g_tryV hF hQ lkL_71 (xa_X4_isSame X hX s js u ju m h) (by decide +kernel : decode cL_isSame 5 = .ok (.invokevirtual 71, 3)) (by decide) rfl rfl rfl rfl jok38 (Nat.le_of_ble_eq_true rfl) [] ⟨0, 17, 20, 13⟩ [] rfl (fun _ h => absurd h List.not_mem_nil) (by decide) (by decide) clL_13 cast_IndexOutOfBoundsException (i := 4) (la := 2) (Or.inr ⟨(by decide +kernel : decode cL_isSame 20 = .ok (.astore 4, 2)), rfl⟩) (by decide) (by decide +kernel : decode cL_isSame (20 + 2) = .ok (.iconst 1, 1)) (by decide +kernel : decode cL_isSame (20 + 2 + 1) = .ok (.ireturn, 1)) (fun m9 h9 => ⟨rfl, h9⟩)
set_option maxHeartbeats 4000000 in
set_option maxRecDepth 100000 in
theorem lc_areSameKeys (X : jX) (hX : jxok X) (s : Nat) (hs : s < 8) (u : Nat) (hu : u < 8) (m : jM) (hC : CI m) : ConL X yL_areSameKeys cL_areSameKeys 5 (some .int) [(0, 17, 20, 13)] 13 [vR 2 38, vI s, vI u, vR 2 59] m (fun o m' => o = some (vI 0) ∧ ∃ m1 : jM, CQ m m1 ∧ m' = mset m1 59 0 ((bI (eqK (m s) (m u))))) := by
  refine ConL.of hX (by decide) (Nat.le_of_ble_eq_true rfl) (fun F hF hQ => ?_)
  refine g_aload_n hF (by decide +kernel : decode cL_areSameKeys 0 = .ok (.aload_n 3, 1)) rfl ?_
  refine g_iconst hF (by decide +kernel : decode cL_areSameKeys 1 = .ok (.iconst 0, 1)) ?_
  refine g_aload_n hF (by decide +kernel : decode cL_areSameKeys 2 = .ok (.aload_n 0, 1)) rfl ?_
  refine g_iload_n hF (by decide +kernel : decode cL_areSameKeys 3 = .ok (.iload_n 1, 1)) rfl ?_
  refine g_iload_n hF (by decide +kernel : decode cL_areSameKeys 4 = .ok (.iload_n 2, 1)) rfl ?_
  refine g_callV hF lkL_74 (c_X4_areSameKeys X hX s hs u hu m hC) (by decide +kernel : decode cL_areSameKeys 5 = .ok (.invokevirtual 74, 3)) (by decide) rfl rfl rfl rfl jok38 (Nat.le_of_ble_eq_true rfl) (fun v5 m5 h5 => ?_)
  obtain ⟨rfl, e5⟩ := h5
  have hb01 : (((bI (eqK (m s) (m u)))) : Int) = 0 ∨ (((bI (eqK (m s) (m u)))) : Int) = 1 := by first | exact bI_c _ | (split <;> omega)
  refine g_if_eq hF (tgt := 15) (by decide +kernel : decode cL_areSameKeys 8 = .ok (.ifCond .eq 7, 3)) (by decide) (by rcases hb01 with e | e <;> rw [e] <;> decide) (fun c8 => ?_) (fun c8 => ?_)
  · skip
    refine g_lconst hF (by decide +kernel : decode cL_areSameKeys 15 = .ok (.lconst 0, 1)) rfl ?_
    refine g_lastore hF (by decide +kernel : decode cL_areSameKeys 16 = .ok (.lastore, 1)) ?_
    refine g_goto hF (tgt := 24) (by decide +kernel : decode cL_areSameKeys 17 = .ok (.goto 7, 3)) (by decide) ?_
    refine g_iconst hF (by decide +kernel : decode cL_areSameKeys 24 = .ok (.iconst 0, 1)) ?_
    refine g_ireturnL hF hQ (by decide +kernel : decode cL_areSameKeys 25 = .ok (.ireturn, 1)) ?_
    refine ⟨rfl, m5, e5, ?_⟩
    first | (rw [c8]; done) | (rw [c8]; rfl)
  · skip
    refine g_lconst hF (by decide +kernel : decode cL_areSameKeys 11 = .ok (.lconst 1, 1)) rfl ?_
    refine g_goto hF (tgt := 16) (by decide +kernel : decode cL_areSameKeys 12 = .ok (.goto 4, 3)) (by decide) ?_
    refine g_lastore hF (by decide +kernel : decode cL_areSameKeys 16 = .ok (.lastore, 1)) ?_
    refine g_goto hF (tgt := 24) (by decide +kernel : decode cL_areSameKeys 17 = .ok (.goto 7, 3)) (by decide) ?_
    refine g_iconst hF (by decide +kernel : decode cL_areSameKeys 24 = .ok (.iconst 0, 1)) ?_
    refine g_ireturnL hF hQ (by decide +kernel : decode cL_areSameKeys 25 = .ok (.ireturn, 1)) ?_
    refine ⟨rfl, m5, e5, ?_⟩
    first | (rw [hb01.resolve_left c8]; done) | (rw [hb01.resolve_left c8]; rfl)
set_option maxHeartbeats 4000000 in
set_option maxRecDepth 100000 in
theorem lxa_areSameKeys (X : jX) (hX : jxok X) (s : Int) (js : jr s) (u : Int) (ju : jr u) (m : jM) (h : ¬ ((0 ≤ s ∧ s < 8) ∧ (0 ≤ u ∧ u < 8))) : ConL X yL_areSameKeys cL_areSameKeys 5 (some .int) [(0, 17, 20, 13)] 13 [vR 2 38, vI s, vI u, vR 2 59] m (fun o m' => o = some (vI 1) ∧ m' = m) := by
  refine ConL.of hX (by decide) (Nat.le_of_ble_eq_true rfl) (fun F hF hQ => ?_)
  refine g_aload_n hF (by decide +kernel : decode cL_areSameKeys 0 = .ok (.aload_n 3, 1)) rfl ?_
  refine g_iconst hF (by decide +kernel : decode cL_areSameKeys 1 = .ok (.iconst 0, 1)) ?_
  refine g_aload_n hF (by decide +kernel : decode cL_areSameKeys 2 = .ok (.aload_n 0, 1)) rfl ?_
  refine g_iload_n hF (by decide +kernel : decode cL_areSameKeys 3 = .ok (.iload_n 1, 1)) rfl ?_
  refine g_iload_n hF (by decide +kernel : decode cL_areSameKeys 4 = .ok (.iload_n 2, 1)) rfl ?_
  exact g_tryV hF hQ lkL_74 (xa_X4_areSameKeys X hX s js u ju m h) (by decide +kernel : decode cL_areSameKeys 5 = .ok (.invokevirtual 74, 3)) (by decide) rfl rfl rfl rfl jok38 (Nat.le_of_ble_eq_true rfl) [] ⟨0, 17, 20, 13⟩ [] rfl (fun _ h => absurd h List.not_mem_nil) (by decide) (by decide) clL_13 cast_IndexOutOfBoundsException (i := 4) (la := 2) (Or.inr ⟨(by decide +kernel : decode cL_areSameKeys 20 = .ok (.astore 4, 2)), rfl⟩) (by decide) (by decide +kernel : decode cL_areSameKeys (20 + 2) = .ok (.iconst 1, 1)) (by decide +kernel : decode cL_areSameKeys (20 + 2 + 1) = .ok (.ireturn, 1)) (fun m9 h9 => ⟨rfl, h9⟩)
set_option maxHeartbeats 4000000 in
set_option maxRecDepth 100000 in
theorem lc_areSameValues (X : jX) (hX : jxok X) (s : Nat) (hs : s < 8) (u : Nat) (hu : u < 8) (m : jM) (hC : CI m) : ConL X yL_areSameValues cL_areSameValues 5 (some .int) [(0, 17, 20, 13)] 13 [vR 2 38, vI s, vI u, vR 2 59] m (fun o m' => o = some (vI 0) ∧ ∃ m1 : jM, CQ m m1 ∧ m' = mset m1 59 0 ((bI (eqV (m s) (m u))))) := by
  refine ConL.of hX (by decide) (Nat.le_of_ble_eq_true rfl) (fun F hF hQ => ?_)
  refine g_aload_n hF (by decide +kernel : decode cL_areSameValues 0 = .ok (.aload_n 3, 1)) rfl ?_
  refine g_iconst hF (by decide +kernel : decode cL_areSameValues 1 = .ok (.iconst 0, 1)) ?_
  refine g_aload_n hF (by decide +kernel : decode cL_areSameValues 2 = .ok (.aload_n 0, 1)) rfl ?_
  refine g_iload_n hF (by decide +kernel : decode cL_areSameValues 3 = .ok (.iload_n 1, 1)) rfl ?_
  refine g_iload_n hF (by decide +kernel : decode cL_areSameValues 4 = .ok (.iload_n 2, 1)) rfl ?_
  refine g_callV hF lkL_77 (c_X4_areSameValues X hX s hs u hu m hC) (by decide +kernel : decode cL_areSameValues 5 = .ok (.invokevirtual 77, 3)) (by decide) rfl rfl rfl rfl jok38 (Nat.le_of_ble_eq_true rfl) (fun v5 m5 h5 => ?_)
  obtain ⟨rfl, e5⟩ := h5
  have hb01 : (((bI (eqV (m s) (m u)))) : Int) = 0 ∨ (((bI (eqV (m s) (m u)))) : Int) = 1 := by first | exact bI_c _ | (split <;> omega)
  refine g_if_eq hF (tgt := 15) (by decide +kernel : decode cL_areSameValues 8 = .ok (.ifCond .eq 7, 3)) (by decide) (by rcases hb01 with e | e <;> rw [e] <;> decide) (fun c8 => ?_) (fun c8 => ?_)
  · skip
    refine g_lconst hF (by decide +kernel : decode cL_areSameValues 15 = .ok (.lconst 0, 1)) rfl ?_
    refine g_lastore hF (by decide +kernel : decode cL_areSameValues 16 = .ok (.lastore, 1)) ?_
    refine g_goto hF (tgt := 24) (by decide +kernel : decode cL_areSameValues 17 = .ok (.goto 7, 3)) (by decide) ?_
    refine g_iconst hF (by decide +kernel : decode cL_areSameValues 24 = .ok (.iconst 0, 1)) ?_
    refine g_ireturnL hF hQ (by decide +kernel : decode cL_areSameValues 25 = .ok (.ireturn, 1)) ?_
    refine ⟨rfl, m5, e5, ?_⟩
    first | (rw [c8]; done) | (rw [c8]; rfl)
  · skip
    refine g_lconst hF (by decide +kernel : decode cL_areSameValues 11 = .ok (.lconst 1, 1)) rfl ?_
    refine g_goto hF (tgt := 16) (by decide +kernel : decode cL_areSameValues 12 = .ok (.goto 4, 3)) (by decide) ?_
    refine g_lastore hF (by decide +kernel : decode cL_areSameValues 16 = .ok (.lastore, 1)) ?_
    refine g_goto hF (tgt := 24) (by decide +kernel : decode cL_areSameValues 17 = .ok (.goto 7, 3)) (by decide) ?_
    refine g_iconst hF (by decide +kernel : decode cL_areSameValues 24 = .ok (.iconst 0, 1)) ?_
    refine g_ireturnL hF hQ (by decide +kernel : decode cL_areSameValues 25 = .ok (.ireturn, 1)) ?_
    refine ⟨rfl, m5, e5, ?_⟩
    first | (rw [hb01.resolve_left c8]; done) | (rw [hb01.resolve_left c8]; rfl)
set_option maxHeartbeats 4000000 in
set_option maxRecDepth 100000 in
theorem lxa_areSameValues (X : jX) (hX : jxok X) (s : Int) (js : jr s) (u : Int) (ju : jr u) (m : jM) (h : ¬ ((0 ≤ s ∧ s < 8) ∧ (0 ≤ u ∧ u < 8))) : ConL X yL_areSameValues cL_areSameValues 5 (some .int) [(0, 17, 20, 13)] 13 [vR 2 38, vI s, vI u, vR 2 59] m (fun o m' => o = some (vI 1) ∧ m' = m) := by
  refine ConL.of hX (by decide) (Nat.le_of_ble_eq_true rfl) (fun F hF hQ => ?_)
  refine g_aload_n hF (by decide +kernel : decode cL_areSameValues 0 = .ok (.aload_n 3, 1)) rfl ?_
  refine g_iconst hF (by decide +kernel : decode cL_areSameValues 1 = .ok (.iconst 0, 1)) ?_
  refine g_aload_n hF (by decide +kernel : decode cL_areSameValues 2 = .ok (.aload_n 0, 1)) rfl ?_
  refine g_iload_n hF (by decide +kernel : decode cL_areSameValues 3 = .ok (.iload_n 1, 1)) rfl ?_
  refine g_iload_n hF (by decide +kernel : decode cL_areSameValues 4 = .ok (.iload_n 2, 1)) rfl ?_
  exact g_tryV hF hQ lkL_77 (xa_X4_areSameValues X hX s js u ju m h) (by decide +kernel : decode cL_areSameValues 5 = .ok (.invokevirtual 77, 3)) (by decide) rfl rfl rfl rfl jok38 (Nat.le_of_ble_eq_true rfl) [] ⟨0, 17, 20, 13⟩ [] rfl (fun _ h => absurd h List.not_mem_nil) (by decide) (by decide) clL_13 cast_IndexOutOfBoundsException (i := 4) (la := 2) (Or.inr ⟨(by decide +kernel : decode cL_areSameValues 20 = .ok (.astore 4, 2)), rfl⟩) (by decide) (by decide +kernel : decode cL_areSameValues (20 + 2) = .ok (.iconst 1, 1)) (by decide +kernel : decode cL_areSameValues (20 + 2 + 1) = .ok (.ireturn, 1)) (fun m9 h9 => ⟨rfl, h9⟩)
set_option maxHeartbeats 4000000 in
set_option maxRecDepth 100000 in
theorem lc_hash (X : jX) (hX : jxok X) (s : Nat) (hs : s < 8) (m : jM) (hC : CI m) : ConL X yL_hash cL_hash 4 (some .int) [(0, 9, 12, 13)] 13 [vR 2 38, vI s, vR 2 59] m (fun o m' => o = some (vI 0) ∧ ∃ m1 : jM, CQ m m1 ∧ m' = mset m1 59 0 (jnI ((pairsN (m s))))) := by
  refine ConL.of hX (by decide) (Nat.le_of_ble_eq_true rfl) (fun F hF hQ => ?_)
  refine g_aload_n hF (by decide +kernel : decode cL_hash 0 = .ok (.aload_n 2, 1)) rfl ?_
  refine g_iconst hF (by decide +kernel : decode cL_hash 1 = .ok (.iconst 0, 1)) ?_
  refine g_aload_n hF (by decide +kernel : decode cL_hash 2 = .ok (.aload_n 0, 1)) rfl ?_
  refine g_iload_n hF (by decide +kernel : decode cL_hash 3 = .ok (.iload_n 1, 1)) rfl ?_
  refine g_callV hF lkL_80 (c_X4_hash X hX s hs m hC) (by decide +kernel : decode cL_hash 4 = .ok (.invokevirtual 80, 3)) (by decide) rfl rfl rfl rfl jok38 (Nat.le_of_ble_eq_true rfl) (fun v4 m4 h4 => ?_)
  obtain ⟨rfl, e4⟩ := h4
  refine g_i2lN hF (by decide +kernel : decode cL_hash 7 = .ok (.i2l, 1)) ?_
  refine g_lastore hF (by decide +kernel : decode cL_hash 8 = .ok (.lastore, 1)) ?_
  refine g_goto hF (tgt := 15) (by decide +kernel : decode cL_hash 9 = .ok (.goto 6, 3)) (by decide) ?_
  refine g_iconst hF (by decide +kernel : decode cL_hash 15 = .ok (.iconst 0, 1)) ?_
  refine g_ireturnL hF hQ (by decide +kernel : decode cL_hash 16 = .ok (.ireturn, 1)) ?_
  exact ⟨rfl, m4, e4, rfl⟩
set_option maxHeartbeats 4000000 in
set_option maxRecDepth 100000 in
theorem lxa_hash (X : jX) (hX : jxok X) (s : Int) (js : jr s) (m : jM) (h : ¬ ((0 ≤ s ∧ s < 8))) : ConL X yL_hash cL_hash 4 (some .int) [(0, 9, 12, 13)] 13 [vR 2 38, vI s, vR 2 59] m (fun o m' => o = some (vI 1) ∧ m' = m) := by
  refine ConL.of hX (by decide) (Nat.le_of_ble_eq_true rfl) (fun F hF hQ => ?_)
  refine g_aload_n hF (by decide +kernel : decode cL_hash 0 = .ok (.aload_n 2, 1)) rfl ?_
  refine g_iconst hF (by decide +kernel : decode cL_hash 1 = .ok (.iconst 0, 1)) ?_
  refine g_aload_n hF (by decide +kernel : decode cL_hash 2 = .ok (.aload_n 0, 1)) rfl ?_
  refine g_iload_n hF (by decide +kernel : decode cL_hash 3 = .ok (.iload_n 1, 1)) rfl ?_
  exact g_tryV hF hQ lkL_80 (xa_X4_hash X hX s js m h) (by decide +kernel : decode cL_hash 4 = .ok (.invokevirtual 80, 3)) (by decide) rfl rfl rfl rfl jok38 (Nat.le_of_ble_eq_true rfl) [] ⟨0, 9, 12, 13⟩ [] rfl (fun _ h => absurd h List.not_mem_nil) (by decide) (by decide) clL_13 cast_IndexOutOfBoundsException (i := 3) (la := 1) (Or.inl ⟨3, (by decide +kernel : decode cL_hash 12 = .ok (.astore_n 3, 1)), rfl, rfl⟩) (by decide) (by decide +kernel : decode cL_hash (12 + 1) = .ok (.iconst 1, 1)) (by decide +kernel : decode cL_hash (12 + 1 + 1) = .ok (.ireturn, 1)) (fun m9 h9 => ⟨rfl, h9⟩)
set_option maxHeartbeats 4000000 in
set_option maxRecDepth 100000 in
theorem lc_keysHash (X : jX) (hX : jxok X) (s : Nat) (hs : s < 8) (m : jM) (hC : CI m) : ConL X yL_keysHash cL_keysHash 4 (some .int) [(0, 9, 12, 13)] 13 [vR 2 38, vI s, vR 2 59] m (fun o m' => o = some (vI 0) ∧ ∃ m1 : jM, CQ m m1 ∧ m' = mset m1 59 0 (jnI ((keysN (m s))))) := by
  refine ConL.of hX (by decide) (Nat.le_of_ble_eq_true rfl) (fun F hF hQ => ?_)
  refine g_aload_n hF (by decide +kernel : decode cL_keysHash 0 = .ok (.aload_n 2, 1)) rfl ?_
  refine g_iconst hF (by decide +kernel : decode cL_keysHash 1 = .ok (.iconst 0, 1)) ?_
  refine g_aload_n hF (by decide +kernel : decode cL_keysHash 2 = .ok (.aload_n 0, 1)) rfl ?_
  refine g_iload_n hF (by decide +kernel : decode cL_keysHash 3 = .ok (.iload_n 1, 1)) rfl ?_
  refine g_callV hF lkL_83 (c_X4_keysHash X hX s hs m hC) (by decide +kernel : decode cL_keysHash 4 = .ok (.invokevirtual 83, 3)) (by decide) rfl rfl rfl rfl jok38 (Nat.le_of_ble_eq_true rfl) (fun v4 m4 h4 => ?_)
  obtain ⟨rfl, e4⟩ := h4
  refine g_i2lN hF (by decide +kernel : decode cL_keysHash 7 = .ok (.i2l, 1)) ?_
  refine g_lastore hF (by decide +kernel : decode cL_keysHash 8 = .ok (.lastore, 1)) ?_
  refine g_goto hF (tgt := 15) (by decide +kernel : decode cL_keysHash 9 = .ok (.goto 6, 3)) (by decide) ?_
  refine g_iconst hF (by decide +kernel : decode cL_keysHash 15 = .ok (.iconst 0, 1)) ?_
  refine g_ireturnL hF hQ (by decide +kernel : decode cL_keysHash 16 = .ok (.ireturn, 1)) ?_
  exact ⟨rfl, m4, e4, rfl⟩
set_option maxHeartbeats 4000000 in
set_option maxRecDepth 100000 in
theorem lxa_keysHash (X : jX) (hX : jxok X) (s : Int) (js : jr s) (m : jM) (h : ¬ ((0 ≤ s ∧ s < 8))) : ConL X yL_keysHash cL_keysHash 4 (some .int) [(0, 9, 12, 13)] 13 [vR 2 38, vI s, vR 2 59] m (fun o m' => o = some (vI 1) ∧ m' = m) := by
  refine ConL.of hX (by decide) (Nat.le_of_ble_eq_true rfl) (fun F hF hQ => ?_)
  refine g_aload_n hF (by decide +kernel : decode cL_keysHash 0 = .ok (.aload_n 2, 1)) rfl ?_
  refine g_iconst hF (by decide +kernel : decode cL_keysHash 1 = .ok (.iconst 0, 1)) ?_
  refine g_aload_n hF (by decide +kernel : decode cL_keysHash 2 = .ok (.aload_n 0, 1)) rfl ?_
  refine g_iload_n hF (by decide +kernel : decode cL_keysHash 3 = .ok (.iload_n 1, 1)) rfl ?_
  exact g_tryV hF hQ lkL_83 (xa_X4_keysHash X hX s js m h) (by decide +kernel : decode cL_keysHash 4 = .ok (.invokevirtual 83, 3)) (by decide) rfl rfl rfl rfl jok38 (Nat.le_of_ble_eq_true rfl) [] ⟨0, 9, 12, 13⟩ [] rfl (fun _ h => absurd h List.not_mem_nil) (by decide) (by decide) clL_13 cast_IndexOutOfBoundsException (i := 3) (la := 1) (Or.inl ⟨3, (by decide +kernel : decode cL_keysHash 12 = .ok (.astore_n 3, 1)), rfl, rfl⟩) (by decide) (by decide +kernel : decode cL_keysHash (12 + 1) = .ok (.iconst 1, 1)) (by decide +kernel : decode cL_keysHash (12 + 1 + 1) = .ok (.ireturn, 1)) (fun m9 h9 => ⟨rfl, h9⟩)
set_option maxHeartbeats 4000000 in
set_option maxRecDepth 100000 in
theorem lc_dropValue (X : jX) (hX : jxok X) (s : Nat) (hs : s < 8) (v : Int) (hv : num v) (m : jM) (hC : CI m) : ConL X yL_dropValue cL_dropValue 5 (some .int) [(0, 10, 13, 13), (0, 10, 17, 15)] 13 [vR 2 38, vI s, vI v, vR 2 59] m (fun o m' => o = some (vI 0) ∧ ∃ m1 : jM, CW m s (fun z => if m s z = v then -2 else m s z) m1 ∧ m' = mset m1 59 0 (jnI ((cnt (m s) - cnt (fun z => if m s z = v then -2 else m s z))))) := by
  refine ConL.of hX (by decide) (Nat.le_of_ble_eq_true rfl) (fun F hF hQ => ?_)
  refine g_aload_n hF (by decide +kernel : decode cL_dropValue 0 = .ok (.aload_n 3, 1)) rfl ?_
  refine g_iconst hF (by decide +kernel : decode cL_dropValue 1 = .ok (.iconst 0, 1)) ?_
  refine g_aload_n hF (by decide +kernel : decode cL_dropValue 2 = .ok (.aload_n 0, 1)) rfl ?_
  refine g_iload_n hF (by decide +kernel : decode cL_dropValue 3 = .ok (.iload_n 1, 1)) rfl ?_
  refine g_iload_n hF (by decide +kernel : decode cL_dropValue 4 = .ok (.iload_n 2, 1)) rfl ?_
  refine g_callV hF lkL_86 (c_X4_dropValue X hX s hs v hv m hC) (by decide +kernel : decode cL_dropValue 5 = .ok (.invokevirtual 86, 3)) (by decide) rfl rfl rfl rfl jok38 (Nat.le_of_ble_eq_true rfl) (fun v5 m5 h5 => ?_)
  obtain ⟨rfl, e5⟩ := h5
  refine g_i2lN hF (by decide +kernel : decode cL_dropValue 8 = .ok (.i2l, 1)) ?_
  refine g_lastore hF (by decide +kernel : decode cL_dropValue 9 = .ok (.lastore, 1)) ?_
  refine g_goto hF (tgt := 21) (by decide +kernel : decode cL_dropValue 10 = .ok (.goto 11, 3)) (by decide) ?_
  refine g_iconst hF (by decide +kernel : decode cL_dropValue 21 = .ok (.iconst 0, 1)) ?_
  refine g_ireturnL hF hQ (by decide +kernel : decode cL_dropValue 22 = .ok (.ireturn, 1)) ?_
  exact ⟨rfl, m5, e5, rfl⟩
set_option maxHeartbeats 4000000 in
set_option maxRecDepth 100000 in
theorem lxa_dropValue (X : jX) (hX : jxok X) (s : Int) (js : jr s) (v : Int) (jv : jr v) (m : jM) (h : ¬ ((0 ≤ s ∧ s < 8))) : ConL X yL_dropValue cL_dropValue 5 (some .int) [(0, 10, 13, 13), (0, 10, 17, 15)] 13 [vR 2 38, vI s, vI v, vR 2 59] m (fun o m' => o = some (vI 1) ∧ m' = m) := by
  refine ConL.of hX (by decide) (Nat.le_of_ble_eq_true rfl) (fun F hF hQ => ?_)
  refine g_aload_n hF (by decide +kernel : decode cL_dropValue 0 = .ok (.aload_n 3, 1)) rfl ?_
  refine g_iconst hF (by decide +kernel : decode cL_dropValue 1 = .ok (.iconst 0, 1)) ?_
  refine g_aload_n hF (by decide +kernel : decode cL_dropValue 2 = .ok (.aload_n 0, 1)) rfl ?_
  refine g_iload_n hF (by decide +kernel : decode cL_dropValue 3 = .ok (.iload_n 1, 1)) rfl ?_
  refine g_iload_n hF (by decide +kernel : decode cL_dropValue 4 = .ok (.iload_n 2, 1)) rfl ?_
  exact g_tryV hF hQ lkL_86 (xa_X4_dropValue X hX s js v jv m h) (by decide +kernel : decode cL_dropValue 5 = .ok (.invokevirtual 86, 3)) (by decide) rfl rfl rfl rfl jok38 (Nat.le_of_ble_eq_true rfl) [] ⟨0, 10, 13, 13⟩ [⟨0, 10, 17, 15⟩] rfl (fun _ h => absurd h List.not_mem_nil) (by decide) (by decide) clL_13 cast_IndexOutOfBoundsException (i := 4) (la := 2) (Or.inr ⟨(by decide +kernel : decode cL_dropValue 13 = .ok (.astore 4, 2)), rfl⟩) (by decide) (by decide +kernel : decode cL_dropValue (13 + 2) = .ok (.iconst 1, 1)) (by decide +kernel : decode cL_dropValue (13 + 2 + 1) = .ok (.ireturn, 1)) (fun m9 h9 => ⟨rfl, h9⟩)
set_option maxHeartbeats 4000000 in
set_option maxRecDepth 100000 in
theorem lxb_dropValue (X : jX) (hX : jxok X) (s : Nat) (hs : s < 8) (v : Int) (jv : jr v) (m : jM) (hC : CI m) (h : ¬ (num v)) : ConL X yL_dropValue cL_dropValue 5 (some .int) [(0, 10, 13, 13), (0, 10, 17, 15)] 13 [vR 2 38, vI s, vI v, vR 2 59] m (fun o m' => o = some (vI 2) ∧ m' = m) := by
  refine ConL.of hX (by decide) (Nat.le_of_ble_eq_true rfl) (fun F hF hQ => ?_)
  refine g_aload_n hF (by decide +kernel : decode cL_dropValue 0 = .ok (.aload_n 3, 1)) rfl ?_
  refine g_iconst hF (by decide +kernel : decode cL_dropValue 1 = .ok (.iconst 0, 1)) ?_
  refine g_aload_n hF (by decide +kernel : decode cL_dropValue 2 = .ok (.aload_n 0, 1)) rfl ?_
  refine g_iload_n hF (by decide +kernel : decode cL_dropValue 3 = .ok (.iload_n 1, 1)) rfl ?_
  refine g_iload_n hF (by decide +kernel : decode cL_dropValue 4 = .ok (.iload_n 2, 1)) rfl ?_
  exact g_tryV hF hQ lkL_86 (xb_X4_dropValue X hX s hs v jv m hC h) (by decide +kernel : decode cL_dropValue 5 = .ok (.invokevirtual 86, 3)) (by decide) rfl rfl rfl rfl jok38 (Nat.le_of_ble_eq_true rfl) [⟨0, 10, 13, 13⟩] ⟨0, 10, 17, 15⟩ [] rfl (List.forall_mem_cons.mpr ⟨⟨by decide, "java/lang/IndexOutOfBoundsException", clL_13, by decide +kernel⟩, (fun _ h => absurd h List.not_mem_nil)⟩) (by decide) (by decide) clL_15 cast_IllegalArgumentException (i := 4) (la := 2) (Or.inr ⟨(by decide +kernel : decode cL_dropValue 17 = .ok (.astore 4, 2)), rfl⟩) (by decide) (by decide +kernel : decode cL_dropValue (17 + 2) = .ok (.iconst 2, 1)) (by decide +kernel : decode cL_dropValue (17 + 2 + 1) = .ok (.ireturn, 1)) (fun m9 h9 => ⟨rfl, h9⟩)
set_option maxHeartbeats 4000000 in
set_option maxRecDepth 100000 in
theorem lc_dropOdd (X : jX) (hX : jxok X) (s : Nat) (hs : s < 8) (m : jM) (hC : CI m) : ConL X yL_dropOdd cL_dropOdd 4 (some .int) [(0, 9, 12, 13)] 13 [vR 2 38, vI s, vR 2 59] m (fun o m' => o = some (vI 0) ∧ ∃ m1 : jM, CW m s (fun z => if 0 < m s z ∧ jand (m s z) 1 = 1 then -2 else m s z) m1 ∧ m' = mset m1 59 0 (jnI ((cnt (m s) - cnt (fun z => if 0 < m s z ∧ jand (m s z) 1 = 1 then -2 else m s z))))) := by
  refine ConL.of hX (by decide) (Nat.le_of_ble_eq_true rfl) (fun F hF hQ => ?_)
  refine g_aload_n hF (by decide +kernel : decode cL_dropOdd 0 = .ok (.aload_n 2, 1)) rfl ?_
  refine g_iconst hF (by decide +kernel : decode cL_dropOdd 1 = .ok (.iconst 0, 1)) ?_
  refine g_aload_n hF (by decide +kernel : decode cL_dropOdd 2 = .ok (.aload_n 0, 1)) rfl ?_
  refine g_iload_n hF (by decide +kernel : decode cL_dropOdd 3 = .ok (.iload_n 1, 1)) rfl ?_
  refine g_callV hF lkL_89 (c_X4_dropOdd X hX s hs m hC) (by decide +kernel : decode cL_dropOdd 4 = .ok (.invokevirtual 89, 3)) (by decide) rfl rfl rfl rfl jok38 (Nat.le_of_ble_eq_true rfl) (fun v4 m4 h4 => ?_)
  obtain ⟨rfl, e4⟩ := h4
  refine g_i2lN hF (by decide +kernel : decode cL_dropOdd 7 = .ok (.i2l, 1)) ?_
  refine g_lastore hF (by decide +kernel : decode cL_dropOdd 8 = .ok (.lastore, 1)) ?_
  refine g_goto hF (tgt := 15) (by decide +kernel : decode cL_dropOdd 9 = .ok (.goto 6, 3)) (by decide) ?_
  refine g_iconst hF (by decide +kernel : decode cL_dropOdd 15 = .ok (.iconst 0, 1)) ?_
  refine g_ireturnL hF hQ (by decide +kernel : decode cL_dropOdd 16 = .ok (.ireturn, 1)) ?_
  exact ⟨rfl, m4, e4, rfl⟩
set_option maxHeartbeats 4000000 in
set_option maxRecDepth 100000 in
theorem lxa_dropOdd (X : jX) (hX : jxok X) (s : Int) (js : jr s) (m : jM) (h : ¬ ((0 ≤ s ∧ s < 8))) : ConL X yL_dropOdd cL_dropOdd 4 (some .int) [(0, 9, 12, 13)] 13 [vR 2 38, vI s, vR 2 59] m (fun o m' => o = some (vI 1) ∧ m' = m) := by
  refine ConL.of hX (by decide) (Nat.le_of_ble_eq_true rfl) (fun F hF hQ => ?_)
  refine g_aload_n hF (by decide +kernel : decode cL_dropOdd 0 = .ok (.aload_n 2, 1)) rfl ?_
  refine g_iconst hF (by decide +kernel : decode cL_dropOdd 1 = .ok (.iconst 0, 1)) ?_
  refine g_aload_n hF (by decide +kernel : decode cL_dropOdd 2 = .ok (.aload_n 0, 1)) rfl ?_
  refine g_iload_n hF (by decide +kernel : decode cL_dropOdd 3 = .ok (.iload_n 1, 1)) rfl ?_
  exact g_tryV hF hQ lkL_89 (xa_X4_dropOdd X hX s js m h) (by decide +kernel : decode cL_dropOdd 4 = .ok (.invokevirtual 89, 3)) (by decide) rfl rfl rfl rfl jok38 (Nat.le_of_ble_eq_true rfl) [] ⟨0, 9, 12, 13⟩ [] rfl (fun _ h => absurd h List.not_mem_nil) (by decide) (by decide) clL_13 cast_IndexOutOfBoundsException (i := 3) (la := 1) (Or.inl ⟨3, (by decide +kernel : decode cL_dropOdd 12 = .ok (.astore_n 3, 1)), rfl, rfl⟩) (by decide) (by decide +kernel : decode cL_dropOdd (12 + 1) = .ok (.iconst 1, 1)) (by decide +kernel : decode cL_dropOdd (12 + 1 + 1) = .ok (.ireturn, 1)) (fun m9 h9 => ⟨rfl, h9⟩)
set_option maxHeartbeats 4000000 in
set_option maxRecDepth 100000 in
theorem lc_shift (X : jX) (hX : jxok X) (s : Nat) (hs : s < 8) (b : Int) (hb : 0 ≤ b ∧ b ≤ 255) (m : jM) (hC : CI m) : ConL X yL_shift cL_shift 5 (some .int) [(0, 10, 13, 13), (0, 10, 17, 15)] 13 [vR 2 38, vI s, vI b, vR 2 59] m (fun o m' => o = some (vI 0) ∧ ∃ m1 : jM, CW m s (fun z => if m s z < 0 then m s z else wr (m s z + b)) m1 ∧ m' = mset m1 59 0 (jnI ((sumN (fun z => if m s z < 0 then 0 else if wr (m s z + b) = m s z then 0 else 1) 257)))) := by
  refine ConL.of hX (by decide) (Nat.le_of_ble_eq_true rfl) (fun F hF hQ => ?_)
  refine g_aload_n hF (by decide +kernel : decode cL_shift 0 = .ok (.aload_n 3, 1)) rfl ?_
  refine g_iconst hF (by decide +kernel : decode cL_shift 1 = .ok (.iconst 0, 1)) ?_
  refine g_aload_n hF (by decide +kernel : decode cL_shift 2 = .ok (.aload_n 0, 1)) rfl ?_
  refine g_iload_n hF (by decide +kernel : decode cL_shift 3 = .ok (.iload_n 1, 1)) rfl ?_
  refine g_iload_n hF (by decide +kernel : decode cL_shift 4 = .ok (.iload_n 2, 1)) rfl ?_
  refine g_callV hF lkL_92 (c_X4_shift X hX s hs b hb m hC) (by decide +kernel : decode cL_shift 5 = .ok (.invokevirtual 92, 3)) (by decide) rfl rfl rfl rfl jok38 (Nat.le_of_ble_eq_true rfl) (fun v5 m5 h5 => ?_)
  obtain ⟨rfl, e5⟩ := h5
  refine g_i2lN hF (by decide +kernel : decode cL_shift 8 = .ok (.i2l, 1)) ?_
  refine g_lastore hF (by decide +kernel : decode cL_shift 9 = .ok (.lastore, 1)) ?_
  refine g_goto hF (tgt := 21) (by decide +kernel : decode cL_shift 10 = .ok (.goto 11, 3)) (by decide) ?_
  refine g_iconst hF (by decide +kernel : decode cL_shift 21 = .ok (.iconst 0, 1)) ?_
  refine g_ireturnL hF hQ (by decide +kernel : decode cL_shift 22 = .ok (.ireturn, 1)) ?_
  exact ⟨rfl, m5, e5, rfl⟩
set_option maxHeartbeats 4000000 in
set_option maxRecDepth 100000 in
theorem lxa_shift (X : jX) (hX : jxok X) (s : Int) (js : jr s) (b : Int) (jb : jr b) (m : jM) (h : ¬ ((0 ≤ s ∧ s < 8))) : ConL X yL_shift cL_shift 5 (some .int) [(0, 10, 13, 13), (0, 10, 17, 15)] 13 [vR 2 38, vI s, vI b, vR 2 59] m (fun o m' => o = some (vI 1) ∧ m' = m) := by
  refine ConL.of hX (by decide) (Nat.le_of_ble_eq_true rfl) (fun F hF hQ => ?_)
  refine g_aload_n hF (by decide +kernel : decode cL_shift 0 = .ok (.aload_n 3, 1)) rfl ?_
  refine g_iconst hF (by decide +kernel : decode cL_shift 1 = .ok (.iconst 0, 1)) ?_
  refine g_aload_n hF (by decide +kernel : decode cL_shift 2 = .ok (.aload_n 0, 1)) rfl ?_
  refine g_iload_n hF (by decide +kernel : decode cL_shift 3 = .ok (.iload_n 1, 1)) rfl ?_
  refine g_iload_n hF (by decide +kernel : decode cL_shift 4 = .ok (.iload_n 2, 1)) rfl ?_
  exact g_tryV hF hQ lkL_92 (xa_X4_shift X hX s js b jb m h) (by decide +kernel : decode cL_shift 5 = .ok (.invokevirtual 92, 3)) (by decide) rfl rfl rfl rfl jok38 (Nat.le_of_ble_eq_true rfl) [] ⟨0, 10, 13, 13⟩ [⟨0, 10, 17, 15⟩] rfl (fun _ h => absurd h List.not_mem_nil) (by decide) (by decide) clL_13 cast_IndexOutOfBoundsException (i := 4) (la := 2) (Or.inr ⟨(by decide +kernel : decode cL_shift 13 = .ok (.astore 4, 2)), rfl⟩) (by decide) (by decide +kernel : decode cL_shift (13 + 2) = .ok (.iconst 1, 1)) (by decide +kernel : decode cL_shift (13 + 2 + 1) = .ok (.ireturn, 1)) (fun m9 h9 => ⟨rfl, h9⟩)
set_option maxHeartbeats 4000000 in
set_option maxRecDepth 100000 in
theorem lxb_shift (X : jX) (hX : jxok X) (s : Nat) (hs : s < 8) (b : Int) (jb : jr b) (m : jM) (hC : CI m) (h : ¬ ((0 ≤ b ∧ b ≤ 255))) : ConL X yL_shift cL_shift 5 (some .int) [(0, 10, 13, 13), (0, 10, 17, 15)] 13 [vR 2 38, vI s, vI b, vR 2 59] m (fun o m' => o = some (vI 2) ∧ m' = m) := by
  refine ConL.of hX (by decide) (Nat.le_of_ble_eq_true rfl) (fun F hF hQ => ?_)
  refine g_aload_n hF (by decide +kernel : decode cL_shift 0 = .ok (.aload_n 3, 1)) rfl ?_
  refine g_iconst hF (by decide +kernel : decode cL_shift 1 = .ok (.iconst 0, 1)) ?_
  refine g_aload_n hF (by decide +kernel : decode cL_shift 2 = .ok (.aload_n 0, 1)) rfl ?_
  refine g_iload_n hF (by decide +kernel : decode cL_shift 3 = .ok (.iload_n 1, 1)) rfl ?_
  refine g_iload_n hF (by decide +kernel : decode cL_shift 4 = .ok (.iload_n 2, 1)) rfl ?_
  exact g_tryV hF hQ lkL_92 (xb_X4_shift X hX s hs b jb m hC h) (by decide +kernel : decode cL_shift 5 = .ok (.invokevirtual 92, 3)) (by decide) rfl rfl rfl rfl jok38 (Nat.le_of_ble_eq_true rfl) [⟨0, 10, 13, 13⟩] ⟨0, 10, 17, 15⟩ [] rfl (List.forall_mem_cons.mpr ⟨⟨by decide, "java/lang/IndexOutOfBoundsException", clL_13, by decide +kernel⟩, (fun _ h => absurd h List.not_mem_nil)⟩) (by decide) (by decide) clL_15 cast_IllegalArgumentException (i := 4) (la := 2) (Or.inr ⟨(by decide +kernel : decode cL_shift 17 = .ok (.astore 4, 2)), rfl⟩) (by decide) (by decide +kernel : decode cL_shift (17 + 2) = .ok (.iconst 2, 1)) (by decide +kernel : decode cL_shift (17 + 2 + 1) = .ok (.ireturn, 1)) (fun m9 h9 => ⟨rfl, h9⟩)
set_option maxHeartbeats 4000000 in
set_option maxRecDepth 100000 in
theorem lc_copy (X : jX) (hX : jxok X) (s : Nat) (hs : s < 8) (u : Nat) (hu : u < 8) (m : jM) (hC : CI m) : ConL X yL_copy cL_copy 5 (some .int) [(0, 10, 13, 13)] 13 [vR 2 38, vI s, vI u, vR 2 59] m (fun o m' => o = some (vI 0) ∧ ∃ m1 : jM, CW m u (m s) m1 ∧ m' = mset m1 59 0 (jnI ((cnt (m s))))) := by
  refine ConL.of hX (by decide) (Nat.le_of_ble_eq_true rfl) (fun F hF hQ => ?_)
  refine g_aload_n hF (by decide +kernel : decode cL_copy 0 = .ok (.aload_n 3, 1)) rfl ?_
  refine g_iconst hF (by decide +kernel : decode cL_copy 1 = .ok (.iconst 0, 1)) ?_
  refine g_aload_n hF (by decide +kernel : decode cL_copy 2 = .ok (.aload_n 0, 1)) rfl ?_
  refine g_iload_n hF (by decide +kernel : decode cL_copy 3 = .ok (.iload_n 1, 1)) rfl ?_
  refine g_iload_n hF (by decide +kernel : decode cL_copy 4 = .ok (.iload_n 2, 1)) rfl ?_
  refine g_callV hF lkL_95 (c_X4_copy X hX s hs u hu m hC) (by decide +kernel : decode cL_copy 5 = .ok (.invokevirtual 95, 3)) (by decide) rfl rfl rfl rfl jok38 (Nat.le_of_ble_eq_true rfl) (fun v5 m5 h5 => ?_)
  obtain ⟨rfl, e5⟩ := h5
  refine g_i2lN hF (by decide +kernel : decode cL_copy 8 = .ok (.i2l, 1)) ?_
  refine g_lastore hF (by decide +kernel : decode cL_copy 9 = .ok (.lastore, 1)) ?_
  refine g_goto hF (tgt := 17) (by decide +kernel : decode cL_copy 10 = .ok (.goto 7, 3)) (by decide) ?_
  refine g_iconst hF (by decide +kernel : decode cL_copy 17 = .ok (.iconst 0, 1)) ?_
  refine g_ireturnL hF hQ (by decide +kernel : decode cL_copy 18 = .ok (.ireturn, 1)) ?_
  exact ⟨rfl, m5, e5, rfl⟩
set_option maxHeartbeats 4000000 in
set_option maxRecDepth 100000 in
theorem lxa_copy (X : jX) (hX : jxok X) (s : Int) (js : jr s) (u : Int) (ju : jr u) (m : jM) (h : ¬ ((0 ≤ s ∧ s < 8) ∧ (0 ≤ u ∧ u < 8))) : ConL X yL_copy cL_copy 5 (some .int) [(0, 10, 13, 13)] 13 [vR 2 38, vI s, vI u, vR 2 59] m (fun o m' => o = some (vI 1) ∧ m' = m) := by
  refine ConL.of hX (by decide) (Nat.le_of_ble_eq_true rfl) (fun F hF hQ => ?_)
  refine g_aload_n hF (by decide +kernel : decode cL_copy 0 = .ok (.aload_n 3, 1)) rfl ?_
  refine g_iconst hF (by decide +kernel : decode cL_copy 1 = .ok (.iconst 0, 1)) ?_
  refine g_aload_n hF (by decide +kernel : decode cL_copy 2 = .ok (.aload_n 0, 1)) rfl ?_
  refine g_iload_n hF (by decide +kernel : decode cL_copy 3 = .ok (.iload_n 1, 1)) rfl ?_
  refine g_iload_n hF (by decide +kernel : decode cL_copy 4 = .ok (.iload_n 2, 1)) rfl ?_
  exact g_tryV hF hQ lkL_95 (xa_X4_copy X hX s js u ju m h) (by decide +kernel : decode cL_copy 5 = .ok (.invokevirtual 95, 3)) (by decide) rfl rfl rfl rfl jok38 (Nat.le_of_ble_eq_true rfl) [] ⟨0, 10, 13, 13⟩ [] rfl (fun _ h => absurd h List.not_mem_nil) (by decide) (by decide) clL_13 cast_IndexOutOfBoundsException (i := 4) (la := 2) (Or.inr ⟨(by decide +kernel : decode cL_copy 13 = .ok (.astore 4, 2)), rfl⟩) (by decide) (by decide +kernel : decode cL_copy (13 + 2) = .ok (.iconst 1, 1)) (by decide +kernel : decode cL_copy (13 + 2 + 1) = .ok (.ireturn, 1)) (fun m9 h9 => ⟨rfl, h9⟩)
set_option maxHeartbeats 4000000 in
set_option maxRecDepth 100000 in
theorem lc_join (X : jX) (hX : jxok X) (s : Nat) (hs : s < 8) (u : Nat) (hu : u < 8) (w : Nat) (hw : w < 8) (m : jM) (hC : CI m) : ConL X yL_join cL_join 6 (some .int) [(0, 12, 15, 13)] 13 [vR 2 38, vI s, vI u, vI w, vR 2 59] m (fun o m' => o = some (vI 0) ∧ ∃ m1 : jM, CW m w (fun z => if m u z = -2 then m s z else m u z) m1 ∧ m' = mset m1 59 0 (jnI ((cnt (fun z => if m u z = -2 then m s z else m u z))))) := by
  refine ConL.of hX (by decide) (Nat.le_of_ble_eq_true rfl) (fun F hF hQ => ?_)
  refine g_aload hF (by decide +kernel : decode cL_join 0 = .ok (.aload 4, 2)) rfl ?_
  refine g_iconst hF (by decide +kernel : decode cL_join 2 = .ok (.iconst 0, 1)) ?_
  refine g_aload_n hF (by decide +kernel : decode cL_join 3 = .ok (.aload_n 0, 1)) rfl ?_
  refine g_iload_n hF (by decide +kernel : decode cL_join 4 = .ok (.iload_n 1, 1)) rfl ?_
  refine g_iload_n hF (by decide +kernel : decode cL_join 5 = .ok (.iload_n 2, 1)) rfl ?_
  refine g_iload_n hF (by decide +kernel : decode cL_join 6 = .ok (.iload_n 3, 1)) rfl ?_
  refine g_callV hF lkL_98 (c_X4_join X hX s hs u hu w hw m hC) (by decide +kernel : decode cL_join 7 = .ok (.invokevirtual 98, 3)) (by decide) rfl rfl rfl rfl jok38 (Nat.le_of_ble_eq_true rfl) (fun v7 m7 h7 => ?_)
  obtain ⟨rfl, e7⟩ := h7
  refine g_i2lN hF (by decide +kernel : decode cL_join 10 = .ok (.i2l, 1)) ?_
  refine g_lastore hF (by decide +kernel : decode cL_join 11 = .ok (.lastore, 1)) ?_
  refine g_goto hF (tgt := 19) (by decide +kernel : decode cL_join 12 = .ok (.goto 7, 3)) (by decide) ?_
  refine g_iconst hF (by decide +kernel : decode cL_join 19 = .ok (.iconst 0, 1)) ?_
  refine g_ireturnL hF hQ (by decide +kernel : decode cL_join 20 = .ok (.ireturn, 1)) ?_
  exact ⟨rfl, m7, e7, rfl⟩
set_option maxHeartbeats 4000000 in
set_option maxRecDepth 100000 in
theorem lxa_join (X : jX) (hX : jxok X) (s : Int) (js : jr s) (u : Int) (ju : jr u) (w : Int) (jw : jr w) (m : jM) (h : ¬ ((0 ≤ s ∧ s < 8) ∧ (0 ≤ u ∧ u < 8) ∧ (0 ≤ w ∧ w < 8))) : ConL X yL_join cL_join 6 (some .int) [(0, 12, 15, 13)] 13 [vR 2 38, vI s, vI u, vI w, vR 2 59] m (fun o m' => o = some (vI 1) ∧ m' = m) := by
  refine ConL.of hX (by decide) (Nat.le_of_ble_eq_true rfl) (fun F hF hQ => ?_)
  refine g_aload hF (by decide +kernel : decode cL_join 0 = .ok (.aload 4, 2)) rfl ?_
  refine g_iconst hF (by decide +kernel : decode cL_join 2 = .ok (.iconst 0, 1)) ?_
  refine g_aload_n hF (by decide +kernel : decode cL_join 3 = .ok (.aload_n 0, 1)) rfl ?_
  refine g_iload_n hF (by decide +kernel : decode cL_join 4 = .ok (.iload_n 1, 1)) rfl ?_
  refine g_iload_n hF (by decide +kernel : decode cL_join 5 = .ok (.iload_n 2, 1)) rfl ?_
  refine g_iload_n hF (by decide +kernel : decode cL_join 6 = .ok (.iload_n 3, 1)) rfl ?_
  exact g_tryV hF hQ lkL_98 (xa_X4_join X hX s js u ju w jw m h) (by decide +kernel : decode cL_join 7 = .ok (.invokevirtual 98, 3)) (by decide) rfl rfl rfl rfl jok38 (Nat.le_of_ble_eq_true rfl) [] ⟨0, 12, 15, 13⟩ [] rfl (fun _ h => absurd h List.not_mem_nil) (by decide) (by decide) clL_13 cast_IndexOutOfBoundsException (i := 5) (la := 2) (Or.inr ⟨(by decide +kernel : decode cL_join 15 = .ok (.astore 5, 2)), rfl⟩) (by decide) (by decide +kernel : decode cL_join (15 + 2) = .ok (.iconst 1, 1)) (by decide +kernel : decode cL_join (15 + 2 + 1) = .ok (.ireturn, 1)) (fun m9 h9 => ⟨rfl, h9⟩)
set_option maxHeartbeats 4000000 in
set_option maxRecDepth 100000 in
theorem lc_less (X : jX) (hX : jxok X) (s : Nat) (hs : s < 8) (u : Nat) (hu : u < 8) (w : Nat) (hw : w < 8) (m : jM) (hC : CI m) : ConL X yL_less cL_less 6 (some .int) [(0, 12, 15, 13)] 13 [vR 2 38, vI s, vI u, vI w, vR 2 59] m (fun o m' => o = some (vI 0) ∧ ∃ m1 : jM, CW m w (fun z => if m u z = -2 then m s z else -2) m1 ∧ m' = mset m1 59 0 (jnI ((cnt (fun z => if m u z = -2 then m s z else -2))))) := by
  refine ConL.of hX (by decide) (Nat.le_of_ble_eq_true rfl) (fun F hF hQ => ?_)
  refine g_aload hF (by decide +kernel : decode cL_less 0 = .ok (.aload 4, 2)) rfl ?_
  refine g_iconst hF (by decide +kernel : decode cL_less 2 = .ok (.iconst 0, 1)) ?_
  refine g_aload_n hF (by decide +kernel : decode cL_less 3 = .ok (.aload_n 0, 1)) rfl ?_
  refine g_iload_n hF (by decide +kernel : decode cL_less 4 = .ok (.iload_n 1, 1)) rfl ?_
  refine g_iload_n hF (by decide +kernel : decode cL_less 5 = .ok (.iload_n 2, 1)) rfl ?_
  refine g_iload_n hF (by decide +kernel : decode cL_less 6 = .ok (.iload_n 3, 1)) rfl ?_
  refine g_callV hF lkL_101 (c_X4_less X hX s hs u hu w hw m hC) (by decide +kernel : decode cL_less 7 = .ok (.invokevirtual 101, 3)) (by decide) rfl rfl rfl rfl jok38 (Nat.le_of_ble_eq_true rfl) (fun v7 m7 h7 => ?_)
  obtain ⟨rfl, e7⟩ := h7
  refine g_i2lN hF (by decide +kernel : decode cL_less 10 = .ok (.i2l, 1)) ?_
  refine g_lastore hF (by decide +kernel : decode cL_less 11 = .ok (.lastore, 1)) ?_
  refine g_goto hF (tgt := 19) (by decide +kernel : decode cL_less 12 = .ok (.goto 7, 3)) (by decide) ?_
  refine g_iconst hF (by decide +kernel : decode cL_less 19 = .ok (.iconst 0, 1)) ?_
  refine g_ireturnL hF hQ (by decide +kernel : decode cL_less 20 = .ok (.ireturn, 1)) ?_
  exact ⟨rfl, m7, e7, rfl⟩
set_option maxHeartbeats 4000000 in
set_option maxRecDepth 100000 in
theorem lxa_less (X : jX) (hX : jxok X) (s : Int) (js : jr s) (u : Int) (ju : jr u) (w : Int) (jw : jr w) (m : jM) (h : ¬ ((0 ≤ s ∧ s < 8) ∧ (0 ≤ u ∧ u < 8) ∧ (0 ≤ w ∧ w < 8))) : ConL X yL_less cL_less 6 (some .int) [(0, 12, 15, 13)] 13 [vR 2 38, vI s, vI u, vI w, vR 2 59] m (fun o m' => o = some (vI 1) ∧ m' = m) := by
  refine ConL.of hX (by decide) (Nat.le_of_ble_eq_true rfl) (fun F hF hQ => ?_)
  refine g_aload hF (by decide +kernel : decode cL_less 0 = .ok (.aload 4, 2)) rfl ?_
  refine g_iconst hF (by decide +kernel : decode cL_less 2 = .ok (.iconst 0, 1)) ?_
  refine g_aload_n hF (by decide +kernel : decode cL_less 3 = .ok (.aload_n 0, 1)) rfl ?_
  refine g_iload_n hF (by decide +kernel : decode cL_less 4 = .ok (.iload_n 1, 1)) rfl ?_
  refine g_iload_n hF (by decide +kernel : decode cL_less 5 = .ok (.iload_n 2, 1)) rfl ?_
  refine g_iload_n hF (by decide +kernel : decode cL_less 6 = .ok (.iload_n 3, 1)) rfl ?_
  exact g_tryV hF hQ lkL_101 (xa_X4_less X hX s js u ju w jw m h) (by decide +kernel : decode cL_less 7 = .ok (.invokevirtual 101, 3)) (by decide) rfl rfl rfl rfl jok38 (Nat.le_of_ble_eq_true rfl) [] ⟨0, 12, 15, 13⟩ [] rfl (fun _ h => absurd h List.not_mem_nil) (by decide) (by decide) clL_13 cast_IndexOutOfBoundsException (i := 5) (la := 2) (Or.inr ⟨(by decide +kernel : decode cL_less 15 = .ok (.astore 5, 2)), rfl⟩) (by decide) (by decide +kernel : decode cL_less (15 + 2) = .ok (.iconst 1, 1)) (by decide +kernel : decode cL_less (15 + 2 + 1) = .ok (.ireturn, 1)) (fun m9 h9 => ⟨rfl, h9⟩)
set_option maxHeartbeats 4000000 in
set_option maxRecDepth 100000 in
theorem lc_common (X : jX) (hX : jxok X) (s : Nat) (hs : s < 8) (u : Nat) (hu : u < 8) (w : Nat) (hw : w < 8) (m : jM) (hC : CI m) : ConL X yL_common cL_common 6 (some .int) [(0, 12, 15, 13)] 13 [vR 2 38, vI s, vI u, vI w, vR 2 59] m (fun o m' => o = some (vI 0) ∧ ∃ m1 : jM, CW m w (fun z => if m u z = -2 then -2 else m s z) m1 ∧ m' = mset m1 59 0 (jnI ((cnt (fun z => if m u z = -2 then -2 else m s z))))) := by
  refine ConL.of hX (by decide) (Nat.le_of_ble_eq_true rfl) (fun F hF hQ => ?_)
  refine g_aload hF (by decide +kernel : decode cL_common 0 = .ok (.aload 4, 2)) rfl ?_
  refine g_iconst hF (by decide +kernel : decode cL_common 2 = .ok (.iconst 0, 1)) ?_
  refine g_aload_n hF (by decide +kernel : decode cL_common 3 = .ok (.aload_n 0, 1)) rfl ?_
  refine g_iload_n hF (by decide +kernel : decode cL_common 4 = .ok (.iload_n 1, 1)) rfl ?_
  refine g_iload_n hF (by decide +kernel : decode cL_common 5 = .ok (.iload_n 2, 1)) rfl ?_
  refine g_iload_n hF (by decide +kernel : decode cL_common 6 = .ok (.iload_n 3, 1)) rfl ?_
  refine g_callV hF lkL_104 (c_X4_common X hX s hs u hu w hw m hC) (by decide +kernel : decode cL_common 7 = .ok (.invokevirtual 104, 3)) (by decide) rfl rfl rfl rfl jok38 (Nat.le_of_ble_eq_true rfl) (fun v7 m7 h7 => ?_)
  obtain ⟨rfl, e7⟩ := h7
  refine g_i2lN hF (by decide +kernel : decode cL_common 10 = .ok (.i2l, 1)) ?_
  refine g_lastore hF (by decide +kernel : decode cL_common 11 = .ok (.lastore, 1)) ?_
  refine g_goto hF (tgt := 19) (by decide +kernel : decode cL_common 12 = .ok (.goto 7, 3)) (by decide) ?_
  refine g_iconst hF (by decide +kernel : decode cL_common 19 = .ok (.iconst 0, 1)) ?_
  refine g_ireturnL hF hQ (by decide +kernel : decode cL_common 20 = .ok (.ireturn, 1)) ?_
  exact ⟨rfl, m7, e7, rfl⟩
set_option maxHeartbeats 4000000 in
set_option maxRecDepth 100000 in
theorem lxa_common (X : jX) (hX : jxok X) (s : Int) (js : jr s) (u : Int) (ju : jr u) (w : Int) (jw : jr w) (m : jM) (h : ¬ ((0 ≤ s ∧ s < 8) ∧ (0 ≤ u ∧ u < 8) ∧ (0 ≤ w ∧ w < 8))) : ConL X yL_common cL_common 6 (some .int) [(0, 12, 15, 13)] 13 [vR 2 38, vI s, vI u, vI w, vR 2 59] m (fun o m' => o = some (vI 1) ∧ m' = m) := by
  refine ConL.of hX (by decide) (Nat.le_of_ble_eq_true rfl) (fun F hF hQ => ?_)
  refine g_aload hF (by decide +kernel : decode cL_common 0 = .ok (.aload 4, 2)) rfl ?_
  refine g_iconst hF (by decide +kernel : decode cL_common 2 = .ok (.iconst 0, 1)) ?_
  refine g_aload_n hF (by decide +kernel : decode cL_common 3 = .ok (.aload_n 0, 1)) rfl ?_
  refine g_iload_n hF (by decide +kernel : decode cL_common 4 = .ok (.iload_n 1, 1)) rfl ?_
  refine g_iload_n hF (by decide +kernel : decode cL_common 5 = .ok (.iload_n 2, 1)) rfl ?_
  refine g_iload_n hF (by decide +kernel : decode cL_common 6 = .ok (.iload_n 3, 1)) rfl ?_
  exact g_tryV hF hQ lkL_104 (xa_X4_common X hX s js u ju w jw m h) (by decide +kernel : decode cL_common 7 = .ok (.invokevirtual 104, 3)) (by decide) rfl rfl rfl rfl jok38 (Nat.le_of_ble_eq_true rfl) [] ⟨0, 12, 15, 13⟩ [] rfl (fun _ h => absurd h List.not_mem_nil) (by decide) (by decide) clL_13 cast_IndexOutOfBoundsException (i := 5) (la := 2) (Or.inr ⟨(by decide +kernel : decode cL_common 15 = .ok (.astore 5, 2)), rfl⟩) (by decide) (by decide +kernel : decode cL_common (15 + 2) = .ok (.iconst 1, 1)) (by decide +kernel : decode cL_common (15 + 2 + 1) = .ok (.ireturn, 1)) (fun m9 h9 => ⟨rfl, h9⟩)
set_option maxHeartbeats 4000000 in
set_option maxRecDepth 100000 in
theorem lc_alike (X : jX) (hX : jxok X) (s : Nat) (hs : s < 8) (u : Nat) (hu : u < 8) (w : Nat) (hw : w < 8) (m : jM) (hC : CI m) : ConL X yL_alike cL_alike 6 (some .int) [(0, 12, 15, 13)] 13 [vR 2 38, vI s, vI u, vI w, vR 2 59] m (fun o m' => o = some (vI 0) ∧ ∃ m1 : jM, CW m w (fun z => if m s z = m u z then m s z else -2) m1 ∧ m' = mset m1 59 0 (jnI ((cnt (fun z => if m s z = m u z then m s z else -2))))) := by
  refine ConL.of hX (by decide) (Nat.le_of_ble_eq_true rfl) (fun F hF hQ => ?_)
  refine g_aload hF (by decide +kernel : decode cL_alike 0 = .ok (.aload 4, 2)) rfl ?_
  refine g_iconst hF (by decide +kernel : decode cL_alike 2 = .ok (.iconst 0, 1)) ?_
  refine g_aload_n hF (by decide +kernel : decode cL_alike 3 = .ok (.aload_n 0, 1)) rfl ?_
  refine g_iload_n hF (by decide +kernel : decode cL_alike 4 = .ok (.iload_n 1, 1)) rfl ?_
  refine g_iload_n hF (by decide +kernel : decode cL_alike 5 = .ok (.iload_n 2, 1)) rfl ?_
  refine g_iload_n hF (by decide +kernel : decode cL_alike 6 = .ok (.iload_n 3, 1)) rfl ?_
  refine g_callV hF lkL_107 (c_X4_alike X hX s hs u hu w hw m hC) (by decide +kernel : decode cL_alike 7 = .ok (.invokevirtual 107, 3)) (by decide) rfl rfl rfl rfl jok38 (Nat.le_of_ble_eq_true rfl) (fun v7 m7 h7 => ?_)
  obtain ⟨rfl, e7⟩ := h7
  refine g_i2lN hF (by decide +kernel : decode cL_alike 10 = .ok (.i2l, 1)) ?_
  refine g_lastore hF (by decide +kernel : decode cL_alike 11 = .ok (.lastore, 1)) ?_
  refine g_goto hF (tgt := 19) (by decide +kernel : decode cL_alike 12 = .ok (.goto 7, 3)) (by decide) ?_
  refine g_iconst hF (by decide +kernel : decode cL_alike 19 = .ok (.iconst 0, 1)) ?_
  refine g_ireturnL hF hQ (by decide +kernel : decode cL_alike 20 = .ok (.ireturn, 1)) ?_
  exact ⟨rfl, m7, e7, rfl⟩
set_option maxHeartbeats 4000000 in
set_option maxRecDepth 100000 in
theorem lxa_alike (X : jX) (hX : jxok X) (s : Int) (js : jr s) (u : Int) (ju : jr u) (w : Int) (jw : jr w) (m : jM) (h : ¬ ((0 ≤ s ∧ s < 8) ∧ (0 ≤ u ∧ u < 8) ∧ (0 ≤ w ∧ w < 8))) : ConL X yL_alike cL_alike 6 (some .int) [(0, 12, 15, 13)] 13 [vR 2 38, vI s, vI u, vI w, vR 2 59] m (fun o m' => o = some (vI 1) ∧ m' = m) := by
  refine ConL.of hX (by decide) (Nat.le_of_ble_eq_true rfl) (fun F hF hQ => ?_)
  refine g_aload hF (by decide +kernel : decode cL_alike 0 = .ok (.aload 4, 2)) rfl ?_
  refine g_iconst hF (by decide +kernel : decode cL_alike 2 = .ok (.iconst 0, 1)) ?_
  refine g_aload_n hF (by decide +kernel : decode cL_alike 3 = .ok (.aload_n 0, 1)) rfl ?_
  refine g_iload_n hF (by decide +kernel : decode cL_alike 4 = .ok (.iload_n 1, 1)) rfl ?_
  refine g_iload_n hF (by decide +kernel : decode cL_alike 5 = .ok (.iload_n 2, 1)) rfl ?_
  refine g_iload_n hF (by decide +kernel : decode cL_alike 6 = .ok (.iload_n 3, 1)) rfl ?_
  exact g_tryV hF hQ lkL_107 (xa_X4_alike X hX s js u ju w jw m h) (by decide +kernel : decode cL_alike 7 = .ok (.invokevirtual 107, 3)) (by decide) rfl rfl rfl rfl jok38 (Nat.le_of_ble_eq_true rfl) [] ⟨0, 12, 15, 13⟩ [] rfl (fun _ h => absurd h List.not_mem_nil) (by decide) (by decide) clL_13 cast_IndexOutOfBoundsException (i := 5) (la := 2) (Or.inr ⟨(by decide +kernel : decode cL_alike 15 = .ok (.astore 5, 2)), rfl⟩) (by decide) (by decide +kernel : decode cL_alike (15 + 2) = .ok (.iconst 1, 1)) (by decide +kernel : decode cL_alike (15 + 2 + 1) = .ok (.ireturn, 1)) (fun m9 h9 => ⟨rfl, h9⟩)
set_option maxHeartbeats 4000000 in
set_option maxRecDepth 100000 in
theorem lc_behind (X : jX) (hX : jxok X) (s : Nat) (hs : s < 8) (u : Nat) (hu : u < 8) (w : Nat) (hw : w < 8) (m : jM) (hC : CI m) : ConL X yL_behind cL_behind 6 (some .int) [(0, 12, 15, 13)] 13 [vR 2 38, vI s, vI u, vI w, vR 2 59] m (fun o m' => o = some (vI 0) ∧ ∃ m1 : jM, CW m w (fun z => if m s z = -2 then -2 else tat (m u) (m s z)) m1 ∧ m' = mset m1 59 0 (jnI ((cnt (fun z => if m s z = -2 then -2 else tat (m u) (m s z)))))) := by
  refine ConL.of hX (by decide) (Nat.le_of_ble_eq_true rfl) (fun F hF hQ => ?_)
  refine g_aload hF (by decide +kernel : decode cL_behind 0 = .ok (.aload 4, 2)) rfl ?_
  refine g_iconst hF (by decide +kernel : decode cL_behind 2 = .ok (.iconst 0, 1)) ?_
  refine g_aload_n hF (by decide +kernel : decode cL_behind 3 = .ok (.aload_n 0, 1)) rfl ?_
  refine g_iload_n hF (by decide +kernel : decode cL_behind 4 = .ok (.iload_n 1, 1)) rfl ?_
  refine g_iload_n hF (by decide +kernel : decode cL_behind 5 = .ok (.iload_n 2, 1)) rfl ?_
  refine g_iload_n hF (by decide +kernel : decode cL_behind 6 = .ok (.iload_n 3, 1)) rfl ?_
  refine g_callV hF lkL_110 (c_X4_behind X hX s hs u hu w hw m hC) (by decide +kernel : decode cL_behind 7 = .ok (.invokevirtual 110, 3)) (by decide) rfl rfl rfl rfl jok38 (Nat.le_of_ble_eq_true rfl) (fun v7 m7 h7 => ?_)
  obtain ⟨rfl, e7⟩ := h7
  refine g_i2lN hF (by decide +kernel : decode cL_behind 10 = .ok (.i2l, 1)) ?_
  refine g_lastore hF (by decide +kernel : decode cL_behind 11 = .ok (.lastore, 1)) ?_
  refine g_goto hF (tgt := 19) (by decide +kernel : decode cL_behind 12 = .ok (.goto 7, 3)) (by decide) ?_
  refine g_iconst hF (by decide +kernel : decode cL_behind 19 = .ok (.iconst 0, 1)) ?_
  refine g_ireturnL hF hQ (by decide +kernel : decode cL_behind 20 = .ok (.ireturn, 1)) ?_
  exact ⟨rfl, m7, e7, rfl⟩
set_option maxHeartbeats 4000000 in
set_option maxRecDepth 100000 in
theorem lxa_behind (X : jX) (hX : jxok X) (s : Int) (js : jr s) (u : Int) (ju : jr u) (w : Int) (jw : jr w) (m : jM) (h : ¬ ((0 ≤ s ∧ s < 8) ∧ (0 ≤ u ∧ u < 8) ∧ (0 ≤ w ∧ w < 8))) : ConL X yL_behind cL_behind 6 (some .int) [(0, 12, 15, 13)] 13 [vR 2 38, vI s, vI u, vI w, vR 2 59] m (fun o m' => o = some (vI 1) ∧ m' = m) := by
  refine ConL.of hX (by decide) (Nat.le_of_ble_eq_true rfl) (fun F hF hQ => ?_)
  refine g_aload hF (by decide +kernel : decode cL_behind 0 = .ok (.aload 4, 2)) rfl ?_
  refine g_iconst hF (by decide +kernel : decode cL_behind 2 = .ok (.iconst 0, 1)) ?_
  refine g_aload_n hF (by decide +kernel : decode cL_behind 3 = .ok (.aload_n 0, 1)) rfl ?_
  refine g_iload_n hF (by decide +kernel : decode cL_behind 4 = .ok (.iload_n 1, 1)) rfl ?_
  refine g_iload_n hF (by decide +kernel : decode cL_behind 5 = .ok (.iload_n 2, 1)) rfl ?_
  refine g_iload_n hF (by decide +kernel : decode cL_behind 6 = .ok (.iload_n 3, 1)) rfl ?_
  exact g_tryV hF hQ lkL_110 (xa_X4_behind X hX s js u ju w jw m h) (by decide +kernel : decode cL_behind 7 = .ok (.invokevirtual 110, 3)) (by decide) rfl rfl rfl rfl jok38 (Nat.le_of_ble_eq_true rfl) [] ⟨0, 12, 15, 13⟩ [] rfl (fun _ h => absurd h List.not_mem_nil) (by decide) (by decide) clL_13 cast_IndexOutOfBoundsException (i := 5) (la := 2) (Or.inr ⟨(by decide +kernel : decode cL_behind 15 = .ok (.astore 5, 2)), rfl⟩) (by decide) (by decide +kernel : decode cL_behind (15 + 2) = .ok (.iconst 1, 1)) (by decide +kernel : decode cL_behind (15 + 2 + 1) = .ok (.ireturn, 1)) (fun m9 h9 => ⟨rfl, h9⟩)
set_option maxHeartbeats 4000000 in
set_option maxRecDepth 100000 in
theorem lc_turn (X : jX) (hX : jxok X) (s : Nat) (hs : s < 8) (u : Nat) (hu : u < 8) (m : jM) (hC : CI m) (ho : once (m s)) : ConL X yL_turn cL_turn 5 (some .int) [(0, 10, 13, 13), (0, 10, 17, 116)] 13 [vR 2 38, vI s, vI u, vR 2 59] m (fun o m' => o = some (vI 0) ∧ ∃ m1 : jM, CW m u (turnN (m s) 257) m1 ∧ m' = mset m1 59 0 (jnI ((cnt (turnN (m s) 257))))) := by
  refine ConL.of hX (by decide) (Nat.le_of_ble_eq_true rfl) (fun F hF hQ => ?_)
  refine g_aload_n hF (by decide +kernel : decode cL_turn 0 = .ok (.aload_n 3, 1)) rfl ?_
  refine g_iconst hF (by decide +kernel : decode cL_turn 1 = .ok (.iconst 0, 1)) ?_
  refine g_aload_n hF (by decide +kernel : decode cL_turn 2 = .ok (.aload_n 0, 1)) rfl ?_
  refine g_iload_n hF (by decide +kernel : decode cL_turn 3 = .ok (.iload_n 1, 1)) rfl ?_
  refine g_iload_n hF (by decide +kernel : decode cL_turn 4 = .ok (.iload_n 2, 1)) rfl ?_
  refine g_callV hF lkL_113 (c_X4_turn X hX s hs u hu m hC ho) (by decide +kernel : decode cL_turn 5 = .ok (.invokevirtual 113, 3)) (by decide) rfl rfl rfl rfl jok38 (Nat.le_of_ble_eq_true rfl) (fun v5 m5 h5 => ?_)
  obtain ⟨rfl, e5⟩ := h5
  refine g_i2lN hF (by decide +kernel : decode cL_turn 8 = .ok (.i2l, 1)) ?_
  refine g_lastore hF (by decide +kernel : decode cL_turn 9 = .ok (.lastore, 1)) ?_
  refine g_goto hF (tgt := 21) (by decide +kernel : decode cL_turn 10 = .ok (.goto 11, 3)) (by decide) ?_
  refine g_iconst hF (by decide +kernel : decode cL_turn 21 = .ok (.iconst 0, 1)) ?_
  refine g_ireturnL hF hQ (by decide +kernel : decode cL_turn 22 = .ok (.ireturn, 1)) ?_
  exact ⟨rfl, m5, e5, rfl⟩
set_option maxHeartbeats 4000000 in
set_option maxRecDepth 100000 in
theorem lxa_turn (X : jX) (hX : jxok X) (s : Int) (js : jr s) (u : Int) (ju : jr u) (m : jM) (h : ¬ ((0 ≤ s ∧ s < 8) ∧ (0 ≤ u ∧ u < 8))) : ConL X yL_turn cL_turn 5 (some .int) [(0, 10, 13, 13), (0, 10, 17, 116)] 13 [vR 2 38, vI s, vI u, vR 2 59] m (fun o m' => o = some (vI 1) ∧ m' = m) := by
  refine ConL.of hX (by decide) (Nat.le_of_ble_eq_true rfl) (fun F hF hQ => ?_)
  refine g_aload_n hF (by decide +kernel : decode cL_turn 0 = .ok (.aload_n 3, 1)) rfl ?_
  refine g_iconst hF (by decide +kernel : decode cL_turn 1 = .ok (.iconst 0, 1)) ?_
  refine g_aload_n hF (by decide +kernel : decode cL_turn 2 = .ok (.aload_n 0, 1)) rfl ?_
  refine g_iload_n hF (by decide +kernel : decode cL_turn 3 = .ok (.iload_n 1, 1)) rfl ?_
  refine g_iload_n hF (by decide +kernel : decode cL_turn 4 = .ok (.iload_n 2, 1)) rfl ?_
  exact g_tryV hF hQ lkL_113 (xa_X4_turn X hX s js u ju m h) (by decide +kernel : decode cL_turn 5 = .ok (.invokevirtual 113, 3)) (by decide) rfl rfl rfl rfl jok38 (Nat.le_of_ble_eq_true rfl) [] ⟨0, 10, 13, 13⟩ [⟨0, 10, 17, 116⟩] rfl (fun _ h => absurd h List.not_mem_nil) (by decide) (by decide) clL_13 cast_IndexOutOfBoundsException (i := 4) (la := 2) (Or.inr ⟨(by decide +kernel : decode cL_turn 13 = .ok (.astore 4, 2)), rfl⟩) (by decide) (by decide +kernel : decode cL_turn (13 + 2) = .ok (.iconst 1, 1)) (by decide +kernel : decode cL_turn (13 + 2 + 1) = .ok (.ireturn, 1)) (fun m9 h9 => ⟨rfl, h9⟩)
set_option maxHeartbeats 4000000 in
set_option maxRecDepth 100000 in
theorem lxb_turn (X : jX) (hX : jxok X) (s : Nat) (hs : s < 8) (u : Nat) (hu : u < 8) (m : jM) (hC : CI m) (h : ¬ once (m s)) : ConL X yL_turn cL_turn 5 (some .int) [(0, 10, 13, 13), (0, 10, 17, 116)] 13 [vR 2 38, vI s, vI u, vR 2 59] m (fun o m' => o = some (vI 2) ∧ CQ m m') := by
  refine ConL.of hX (by decide) (Nat.le_of_ble_eq_true rfl) (fun F hF hQ => ?_)
  refine g_aload_n hF (by decide +kernel : decode cL_turn 0 = .ok (.aload_n 3, 1)) rfl ?_
  refine g_iconst hF (by decide +kernel : decode cL_turn 1 = .ok (.iconst 0, 1)) ?_
  refine g_aload_n hF (by decide +kernel : decode cL_turn 2 = .ok (.aload_n 0, 1)) rfl ?_
  refine g_iload_n hF (by decide +kernel : decode cL_turn 3 = .ok (.iload_n 1, 1)) rfl ?_
  refine g_iload_n hF (by decide +kernel : decode cL_turn 4 = .ok (.iload_n 2, 1)) rfl ?_
  exact g_tryV hF hQ lkL_113 (xb_X4_turn X hX s hs u hu m hC h) (by decide +kernel : decode cL_turn 5 = .ok (.invokevirtual 113, 3)) (by decide) rfl rfl rfl rfl jok38 (Nat.le_of_ble_eq_true rfl) [⟨0, 10, 13, 13⟩] ⟨0, 10, 17, 116⟩ [] rfl (List.forall_mem_cons.mpr ⟨⟨by decide, "java/lang/IndexOutOfBoundsException", clL_13, by decide +kernel⟩, (fun _ h => absurd h List.not_mem_nil)⟩) (by decide) (by decide) clL_116 cast_UnsupportedOperationException (i := 4) (la := 2) (Or.inr ⟨(by decide +kernel : decode cL_turn 17 = .ok (.astore 4, 2)), rfl⟩) (by decide) (by decide +kernel : decode cL_turn (17 + 2) = .ok (.iconst 2, 1)) (by decide +kernel : decode cL_turn (17 + 2 + 1) = .ok (.ireturn, 1)) (fun m9 h9 => ⟨rfl, h9⟩)
set_option maxHeartbeats 4000000 in
set_option maxRecDepth 100000 in
theorem lc_power (X : jX) (hX : jxok X) (s : Nat) (hs : s < 8) (e : Nat) (he : e ≤ 1000) (u : Nat) (hu : u < 8) (m : jM) (hC : CI m) : ConL X yL_power cL_power 6 (some .int) [(0, 12, 15, 13), (0, 12, 19, 15)] 13 [vR 2 38, vI s, vI e, vI u, vR 2 59] m (fun o m' => o = some (vI 0) ∧ ∃ m1 : jM, CW m u (powN (m s) (selv (m s)) e) m1 ∧ m' = mset m1 59 0 (jnI ((cnt (powN (m s) (selv (m s)) e))))) := by
  refine ConL.of hX (by decide) (Nat.le_of_ble_eq_true rfl) (fun F hF hQ => ?_)
  refine g_aload hF (by decide +kernel : decode cL_power 0 = .ok (.aload 4, 2)) rfl ?_
  refine g_iconst hF (by decide +kernel : decode cL_power 2 = .ok (.iconst 0, 1)) ?_
  refine g_aload_n hF (by decide +kernel : decode cL_power 3 = .ok (.aload_n 0, 1)) rfl ?_
  refine g_iload_n hF (by decide +kernel : decode cL_power 4 = .ok (.iload_n 1, 1)) rfl ?_
  refine g_iload_n hF (by decide +kernel : decode cL_power 5 = .ok (.iload_n 2, 1)) rfl ?_
  refine g_iload_n hF (by decide +kernel : decode cL_power 6 = .ok (.iload_n 3, 1)) rfl ?_
  refine g_callV hF lkL_118 (c_X4_power X hX s hs e he u hu m hC) (by decide +kernel : decode cL_power 7 = .ok (.invokevirtual 118, 3)) (by decide) rfl rfl rfl rfl jok38 (Nat.le_of_ble_eq_true rfl) (fun v7 m7 h7 => ?_)
  obtain ⟨rfl, e7⟩ := h7
  refine g_i2lN hF (by decide +kernel : decode cL_power 10 = .ok (.i2l, 1)) ?_
  refine g_lastore hF (by decide +kernel : decode cL_power 11 = .ok (.lastore, 1)) ?_
  refine g_goto hF (tgt := 23) (by decide +kernel : decode cL_power 12 = .ok (.goto 11, 3)) (by decide) ?_
  refine g_iconst hF (by decide +kernel : decode cL_power 23 = .ok (.iconst 0, 1)) ?_
  refine g_ireturnL hF hQ (by decide +kernel : decode cL_power 24 = .ok (.ireturn, 1)) ?_
  exact ⟨rfl, m7, e7, rfl⟩
set_option maxHeartbeats 4000000 in
set_option maxRecDepth 100000 in
theorem lxa_power (X : jX) (hX : jxok X) (s : Int) (js : jr s) (e : Int) (je : jr e) (u : Int) (ju : jr u) (m : jM) (h : ¬ ((0 ≤ s ∧ s < 8) ∧ (0 ≤ u ∧ u < 8))) : ConL X yL_power cL_power 6 (some .int) [(0, 12, 15, 13), (0, 12, 19, 15)] 13 [vR 2 38, vI s, vI e, vI u, vR 2 59] m (fun o m' => o = some (vI 1) ∧ m' = m) := by
  refine ConL.of hX (by decide) (Nat.le_of_ble_eq_true rfl) (fun F hF hQ => ?_)
  refine g_aload hF (by decide +kernel : decode cL_power 0 = .ok (.aload 4, 2)) rfl ?_
  refine g_iconst hF (by decide +kernel : decode cL_power 2 = .ok (.iconst 0, 1)) ?_
  refine g_aload_n hF (by decide +kernel : decode cL_power 3 = .ok (.aload_n 0, 1)) rfl ?_
  refine g_iload_n hF (by decide +kernel : decode cL_power 4 = .ok (.iload_n 1, 1)) rfl ?_
  refine g_iload_n hF (by decide +kernel : decode cL_power 5 = .ok (.iload_n 2, 1)) rfl ?_
  refine g_iload_n hF (by decide +kernel : decode cL_power 6 = .ok (.iload_n 3, 1)) rfl ?_
  exact g_tryV hF hQ lkL_118 (xa_X4_power X hX s js e je u ju m h) (by decide +kernel : decode cL_power 7 = .ok (.invokevirtual 118, 3)) (by decide) rfl rfl rfl rfl jok38 (Nat.le_of_ble_eq_true rfl) [] ⟨0, 12, 15, 13⟩ [⟨0, 12, 19, 15⟩] rfl (fun _ h => absurd h List.not_mem_nil) (by decide) (by decide) clL_13 cast_IndexOutOfBoundsException (i := 5) (la := 2) (Or.inr ⟨(by decide +kernel : decode cL_power 15 = .ok (.astore 5, 2)), rfl⟩) (by decide) (by decide +kernel : decode cL_power (15 + 2) = .ok (.iconst 1, 1)) (by decide +kernel : decode cL_power (15 + 2 + 1) = .ok (.ireturn, 1)) (fun m9 h9 => ⟨rfl, h9⟩)
set_option maxHeartbeats 4000000 in
set_option maxRecDepth 100000 in
theorem lxb_power (X : jX) (hX : jxok X) (s : Nat) (hs : s < 8) (e : Int) (je : jr e) (u : Nat) (hu : u < 8) (m : jM) (hC : CI m) (h : ¬ ((0 ≤ e ∧ e ≤ 1000))) : ConL X yL_power cL_power 6 (some .int) [(0, 12, 15, 13), (0, 12, 19, 15)] 13 [vR 2 38, vI s, vI e, vI u, vR 2 59] m (fun o m' => o = some (vI 2) ∧ m' = m) := by
  refine ConL.of hX (by decide) (Nat.le_of_ble_eq_true rfl) (fun F hF hQ => ?_)
  refine g_aload hF (by decide +kernel : decode cL_power 0 = .ok (.aload 4, 2)) rfl ?_
  refine g_iconst hF (by decide +kernel : decode cL_power 2 = .ok (.iconst 0, 1)) ?_
  refine g_aload_n hF (by decide +kernel : decode cL_power 3 = .ok (.aload_n 0, 1)) rfl ?_
  refine g_iload_n hF (by decide +kernel : decode cL_power 4 = .ok (.iload_n 1, 1)) rfl ?_
  refine g_iload_n hF (by decide +kernel : decode cL_power 5 = .ok (.iload_n 2, 1)) rfl ?_
  refine g_iload_n hF (by decide +kernel : decode cL_power 6 = .ok (.iload_n 3, 1)) rfl ?_
  exact g_tryV hF hQ lkL_118 (xb_X4_power X hX s hs e je u hu m hC h) (by decide +kernel : decode cL_power 7 = .ok (.invokevirtual 118, 3)) (by decide) rfl rfl rfl rfl jok38 (Nat.le_of_ble_eq_true rfl) [⟨0, 12, 15, 13⟩] ⟨0, 12, 19, 15⟩ [] rfl (List.forall_mem_cons.mpr ⟨⟨by decide, "java/lang/IndexOutOfBoundsException", clL_13, by decide +kernel⟩, (fun _ h => absurd h List.not_mem_nil)⟩) (by decide) (by decide) clL_15 cast_IllegalArgumentException (i := 5) (la := 2) (Or.inr ⟨(by decide +kernel : decode cL_power 19 = .ok (.astore 5, 2)), rfl⟩) (by decide) (by decide +kernel : decode cL_power (19 + 2) = .ok (.iconst 2, 1)) (by decide +kernel : decode cL_power (19 + 2 + 1) = .ok (.ireturn, 1)) (fun m9 h9 => ⟨rfl, h9⟩)
set_option maxHeartbeats 4000000 in
set_option maxRecDepth 100000 in
theorem lc_isInto (X : jX) (hX : jxok X) (s : Nat) (hs : s < 8) (m : jM) (hC : CI m) : ConL X yL_isInto cL_isInto 4 (some .int) [(0, 16, 19, 13)] 13 [vR 2 38, vI s, vR 2 59] m (fun o m' => o = some (vI 0) ∧ ∃ m1 : jM, CQ m m1 ∧ m' = mset m1 59 0 ((bI (inside (m s))))) := by
  refine ConL.of hX (by decide) (Nat.le_of_ble_eq_true rfl) (fun F hF hQ => ?_)
  refine g_aload_n hF (by decide +kernel : decode cL_isInto 0 = .ok (.aload_n 2, 1)) rfl ?_
  refine g_iconst hF (by decide +kernel : decode cL_isInto 1 = .ok (.iconst 0, 1)) ?_
  refine g_aload_n hF (by decide +kernel : decode cL_isInto 2 = .ok (.aload_n 0, 1)) rfl ?_
  refine g_iload_n hF (by decide +kernel : decode cL_isInto 3 = .ok (.iload_n 1, 1)) rfl ?_
  refine g_callV hF lkL_121 (c_X4_isInto X hX s hs m hC) (by decide +kernel : decode cL_isInto 4 = .ok (.invokevirtual 121, 3)) (by decide) rfl rfl rfl rfl jok38 (Nat.le_of_ble_eq_true rfl) (fun v4 m4 h4 => ?_)
  obtain ⟨rfl, e4⟩ := h4
  have hb01 : (((bI (inside (m s)))) : Int) = 0 ∨ (((bI (inside (m s)))) : Int) = 1 := by first | exact bI_c _ | (split <;> omega)
  refine g_if_eq hF (tgt := 14) (by decide +kernel : decode cL_isInto 7 = .ok (.ifCond .eq 7, 3)) (by decide) (by rcases hb01 with e | e <;> rw [e] <;> decide) (fun c7 => ?_) (fun c7 => ?_)
  · skip
    refine g_lconst hF (by decide +kernel : decode cL_isInto 14 = .ok (.lconst 0, 1)) rfl ?_
    refine g_lastore hF (by decide +kernel : decode cL_isInto 15 = .ok (.lastore, 1)) ?_
    refine g_goto hF (tgt := 22) (by decide +kernel : decode cL_isInto 16 = .ok (.goto 6, 3)) (by decide) ?_
    refine g_iconst hF (by decide +kernel : decode cL_isInto 22 = .ok (.iconst 0, 1)) ?_
    refine g_ireturnL hF hQ (by decide +kernel : decode cL_isInto 23 = .ok (.ireturn, 1)) ?_
    refine ⟨rfl, m4, e4, ?_⟩
    first | (rw [c7]; done) | (rw [c7]; rfl)
  · skip
    refine g_lconst hF (by decide +kernel : decode cL_isInto 10 = .ok (.lconst 1, 1)) rfl ?_
    refine g_goto hF (tgt := 15) (by decide +kernel : decode cL_isInto 11 = .ok (.goto 4, 3)) (by decide) ?_
    refine g_lastore hF (by decide +kernel : decode cL_isInto 15 = .ok (.lastore, 1)) ?_
    refine g_goto hF (tgt := 22) (by decide +kernel : decode cL_isInto 16 = .ok (.goto 6, 3)) (by decide) ?_
    refine g_iconst hF (by decide +kernel : decode cL_isInto 22 = .ok (.iconst 0, 1)) ?_
    refine g_ireturnL hF hQ (by decide +kernel : decode cL_isInto 23 = .ok (.ireturn, 1)) ?_
    refine ⟨rfl, m4, e4, ?_⟩
    first | (rw [hb01.resolve_left c7]; done) | (rw [hb01.resolve_left c7]; rfl)
set_option maxHeartbeats 4000000 in
set_option maxRecDepth 100000 in
theorem lxa_isInto (X : jX) (hX : jxok X) (s : Int) (js : jr s) (m : jM) (h : ¬ ((0 ≤ s ∧ s < 8))) : ConL X yL_isInto cL_isInto 4 (some .int) [(0, 16, 19, 13)] 13 [vR 2 38, vI s, vR 2 59] m (fun o m' => o = some (vI 1) ∧ m' = m) := by
  refine ConL.of hX (by decide) (Nat.le_of_ble_eq_true rfl) (fun F hF hQ => ?_)
  refine g_aload_n hF (by decide +kernel : decode cL_isInto 0 = .ok (.aload_n 2, 1)) rfl ?_
  refine g_iconst hF (by decide +kernel : decode cL_isInto 1 = .ok (.iconst 0, 1)) ?_
  refine g_aload_n hF (by decide +kernel : decode cL_isInto 2 = .ok (.aload_n 0, 1)) rfl ?_
  refine g_iload_n hF (by decide +kernel : decode cL_isInto 3 = .ok (.iload_n 1, 1)) rfl ?_
  exact g_tryV hF hQ lkL_121 (xa_X4_isInto X hX s js m h) (by decide +kernel : decode cL_isInto 4 = .ok (.invokevirtual 121, 3)) (by decide) rfl rfl rfl rfl jok38 (Nat.le_of_ble_eq_true rfl) [] ⟨0, 16, 19, 13⟩ [] rfl (fun _ h => absurd h List.not_mem_nil) (by decide) (by decide) clL_13 cast_IndexOutOfBoundsException (i := 3) (la := 1) (Or.inl ⟨3, (by decide +kernel : decode cL_isInto 19 = .ok (.astore_n 3, 1)), rfl, rfl⟩) (by decide) (by decide +kernel : decode cL_isInto (19 + 1) = .ok (.iconst 1, 1)) (by decide +kernel : decode cL_isInto (19 + 1 + 1) = .ok (.ireturn, 1)) (fun m9 h9 => ⟨rfl, h9⟩)
set_option maxHeartbeats 4000000 in
set_option maxRecDepth 100000 in
theorem lc_fixed (X : jX) (hX : jxok X) (s : Nat) (hs : s < 8) (m : jM) (hC : CI m) : ConL X yL_fixed cL_fixed 4 (some .int) [(0, 9, 12, 13)] 13 [vR 2 38, vI s, vR 2 59] m (fun o m' => o = some (vI 0) ∧ ∃ m1 : jM, CQ m m1 ∧ m' = mset m1 59 0 (jnI ((selfN (m s))))) := by
  refine ConL.of hX (by decide) (Nat.le_of_ble_eq_true rfl) (fun F hF hQ => ?_)
  refine g_aload_n hF (by decide +kernel : decode cL_fixed 0 = .ok (.aload_n 2, 1)) rfl ?_
  refine g_iconst hF (by decide +kernel : decode cL_fixed 1 = .ok (.iconst 0, 1)) ?_
  refine g_aload_n hF (by decide +kernel : decode cL_fixed 2 = .ok (.aload_n 0, 1)) rfl ?_
  refine g_iload_n hF (by decide +kernel : decode cL_fixed 3 = .ok (.iload_n 1, 1)) rfl ?_
  refine g_callV hF lkL_125 (c_X4_fixed X hX s hs m hC) (by decide +kernel : decode cL_fixed 4 = .ok (.invokevirtual 125, 3)) (by decide) rfl rfl rfl rfl jok38 (Nat.le_of_ble_eq_true rfl) (fun v4 m4 h4 => ?_)
  obtain ⟨rfl, e4⟩ := h4
  refine g_i2lN hF (by decide +kernel : decode cL_fixed 7 = .ok (.i2l, 1)) ?_
  refine g_lastore hF (by decide +kernel : decode cL_fixed 8 = .ok (.lastore, 1)) ?_
  refine g_goto hF (tgt := 15) (by decide +kernel : decode cL_fixed 9 = .ok (.goto 6, 3)) (by decide) ?_
  refine g_iconst hF (by decide +kernel : decode cL_fixed 15 = .ok (.iconst 0, 1)) ?_
  refine g_ireturnL hF hQ (by decide +kernel : decode cL_fixed 16 = .ok (.ireturn, 1)) ?_
  exact ⟨rfl, m4, e4, rfl⟩
set_option maxHeartbeats 4000000 in
set_option maxRecDepth 100000 in
theorem lxa_fixed (X : jX) (hX : jxok X) (s : Int) (js : jr s) (m : jM) (h : ¬ ((0 ≤ s ∧ s < 8))) : ConL X yL_fixed cL_fixed 4 (some .int) [(0, 9, 12, 13)] 13 [vR 2 38, vI s, vR 2 59] m (fun o m' => o = some (vI 1) ∧ m' = m) := by
  refine ConL.of hX (by decide) (Nat.le_of_ble_eq_true rfl) (fun F hF hQ => ?_)
  refine g_aload_n hF (by decide +kernel : decode cL_fixed 0 = .ok (.aload_n 2, 1)) rfl ?_
  refine g_iconst hF (by decide +kernel : decode cL_fixed 1 = .ok (.iconst 0, 1)) ?_
  refine g_aload_n hF (by decide +kernel : decode cL_fixed 2 = .ok (.aload_n 0, 1)) rfl ?_
  refine g_iload_n hF (by decide +kernel : decode cL_fixed 3 = .ok (.iload_n 1, 1)) rfl ?_
  exact g_tryV hF hQ lkL_125 (xa_X4_fixed X hX s js m h) (by decide +kernel : decode cL_fixed 4 = .ok (.invokevirtual 125, 3)) (by decide) rfl rfl rfl rfl jok38 (Nat.le_of_ble_eq_true rfl) [] ⟨0, 9, 12, 13⟩ [] rfl (fun _ h => absurd h List.not_mem_nil) (by decide) (by decide) clL_13 cast_IndexOutOfBoundsException (i := 3) (la := 1) (Or.inl ⟨3, (by decide +kernel : decode cL_fixed 12 = .ok (.astore_n 3, 1)), rfl, rfl⟩) (by decide) (by decide +kernel : decode cL_fixed (12 + 1) = .ok (.iconst 1, 1)) (by decide +kernel : decode cL_fixed (12 + 1 + 1) = .ok (.ireturn, 1)) (fun m9 h9 => ⟨rfl, h9⟩)
set_option maxHeartbeats 4000000 in
set_option maxRecDepth 100000 in
theorem lc_steps (X : jX) (hX : jxok X) (s : Nat) (hs : s < 8) (k : Int) (hk : num k) (m : jM) (hC : CI m) (h : ¬ tat (m s) k = -2) : ConL X yL_steps cL_steps 5 (some .int) [(0, 10, 13, 13), (0, 10, 17, 15), (0, 10, 21, 69)] 13 [vR 2 38, vI s, vI k, vR 2 59] m (fun o m' => o = some (vI 0) ∧ ∃ m1 : jM, CQ m m1 ∧ m' = mset m1 59 0 (jnI ((per (m s) k)))) := by
  refine ConL.of hX (by decide) (Nat.le_of_ble_eq_true rfl) (fun F hF hQ => ?_)
  refine g_aload_n hF (by decide +kernel : decode cL_steps 0 = .ok (.aload_n 3, 1)) rfl ?_
  refine g_iconst hF (by decide +kernel : decode cL_steps 1 = .ok (.iconst 0, 1)) ?_
  refine g_aload_n hF (by decide +kernel : decode cL_steps 2 = .ok (.aload_n 0, 1)) rfl ?_
  refine g_iload_n hF (by decide +kernel : decode cL_steps 3 = .ok (.iload_n 1, 1)) rfl ?_
  refine g_iload_n hF (by decide +kernel : decode cL_steps 4 = .ok (.iload_n 2, 1)) rfl ?_
  refine g_callV hF lkL_128 (c_X4_steps X hX s hs k hk m hC h) (by decide +kernel : decode cL_steps 5 = .ok (.invokevirtual 128, 3)) (by decide) rfl rfl rfl rfl jok38 (Nat.le_of_ble_eq_true rfl) (fun v5 m5 h5 => ?_)
  obtain ⟨rfl, e5⟩ := h5
  refine g_i2lN hF (by decide +kernel : decode cL_steps 8 = .ok (.i2l, 1)) ?_
  refine g_lastore hF (by decide +kernel : decode cL_steps 9 = .ok (.lastore, 1)) ?_
  refine g_goto hF (tgt := 25) (by decide +kernel : decode cL_steps 10 = .ok (.goto 15, 3)) (by decide) ?_
  refine g_iconst hF (by decide +kernel : decode cL_steps 25 = .ok (.iconst 0, 1)) ?_
  refine g_ireturnL hF hQ (by decide +kernel : decode cL_steps 26 = .ok (.ireturn, 1)) ?_
  exact ⟨rfl, m5, e5, rfl⟩
set_option maxHeartbeats 4000000 in
set_option maxRecDepth 100000 in
theorem lxa_steps (X : jX) (hX : jxok X) (s : Int) (js : jr s) (k : Int) (jk : jr k) (m : jM) (h : ¬ (0 ≤ s ∧ s < 8)) : ConL X yL_steps cL_steps 5 (some .int) [(0, 10, 13, 13), (0, 10, 17, 15), (0, 10, 21, 69)] 13 [vR 2 38, vI s, vI k, vR 2 59] m (fun o m' => o = some (vI 1) ∧ m' = m) := by
  refine ConL.of hX (by decide) (Nat.le_of_ble_eq_true rfl) (fun F hF hQ => ?_)
  refine g_aload_n hF (by decide +kernel : decode cL_steps 0 = .ok (.aload_n 3, 1)) rfl ?_
  refine g_iconst hF (by decide +kernel : decode cL_steps 1 = .ok (.iconst 0, 1)) ?_
  refine g_aload_n hF (by decide +kernel : decode cL_steps 2 = .ok (.aload_n 0, 1)) rfl ?_
  refine g_iload_n hF (by decide +kernel : decode cL_steps 3 = .ok (.iload_n 1, 1)) rfl ?_
  refine g_iload_n hF (by decide +kernel : decode cL_steps 4 = .ok (.iload_n 2, 1)) rfl ?_
  exact g_tryV hF hQ lkL_128 (xa_X4_steps X hX s js k jk m h) (by decide +kernel : decode cL_steps 5 = .ok (.invokevirtual 128, 3)) (by decide) rfl rfl rfl rfl jok38 (Nat.le_of_ble_eq_true rfl) [] ⟨0, 10, 13, 13⟩ [⟨0, 10, 17, 15⟩, ⟨0, 10, 21, 69⟩] rfl (fun _ h => absurd h List.not_mem_nil) (by decide) (by decide) clL_13 cast_IndexOutOfBoundsException (i := 4) (la := 2) (Or.inr ⟨(by decide +kernel : decode cL_steps 13 = .ok (.astore 4, 2)), rfl⟩) (by decide) (by decide +kernel : decode cL_steps (13 + 2) = .ok (.iconst 1, 1)) (by decide +kernel : decode cL_steps (13 + 2 + 1) = .ok (.ireturn, 1)) (fun m9 h9 => ⟨rfl, h9⟩)
set_option maxHeartbeats 4000000 in
set_option maxRecDepth 100000 in
theorem lxb_steps (X : jX) (hX : jxok X) (s : Nat) (hs : s < 8) (k : Int) (jk : jr k) (m : jM) (hC : CI m) (h : ¬ num k) : ConL X yL_steps cL_steps 5 (some .int) [(0, 10, 13, 13), (0, 10, 17, 15), (0, 10, 21, 69)] 13 [vR 2 38, vI s, vI k, vR 2 59] m (fun o m' => o = some (vI 2) ∧ m' = m) := by
  refine ConL.of hX (by decide) (Nat.le_of_ble_eq_true rfl) (fun F hF hQ => ?_)
  refine g_aload_n hF (by decide +kernel : decode cL_steps 0 = .ok (.aload_n 3, 1)) rfl ?_
  refine g_iconst hF (by decide +kernel : decode cL_steps 1 = .ok (.iconst 0, 1)) ?_
  refine g_aload_n hF (by decide +kernel : decode cL_steps 2 = .ok (.aload_n 0, 1)) rfl ?_
  refine g_iload_n hF (by decide +kernel : decode cL_steps 3 = .ok (.iload_n 1, 1)) rfl ?_
  refine g_iload_n hF (by decide +kernel : decode cL_steps 4 = .ok (.iload_n 2, 1)) rfl ?_
  exact g_tryV hF hQ lkL_128 (xb_X4_steps X hX s hs k jk m hC h) (by decide +kernel : decode cL_steps 5 = .ok (.invokevirtual 128, 3)) (by decide) rfl rfl rfl rfl jok38 (Nat.le_of_ble_eq_true rfl) [⟨0, 10, 13, 13⟩] ⟨0, 10, 17, 15⟩ [⟨0, 10, 21, 69⟩] rfl (List.forall_mem_cons.mpr ⟨⟨by decide, "java/lang/IndexOutOfBoundsException", clL_13, by decide +kernel⟩, (fun _ h => absurd h List.not_mem_nil)⟩) (by decide) (by decide) clL_15 cast_IllegalArgumentException (i := 4) (la := 2) (Or.inr ⟨(by decide +kernel : decode cL_steps 17 = .ok (.astore 4, 2)), rfl⟩) (by decide) (by decide +kernel : decode cL_steps (17 + 2) = .ok (.iconst 2, 1)) (by decide +kernel : decode cL_steps (17 + 2 + 1) = .ok (.ireturn, 1)) (fun m9 h9 => ⟨rfl, h9⟩)
set_option maxHeartbeats 4000000 in
set_option maxRecDepth 100000 in
theorem lxc_steps (X : jX) (hX : jxok X) (s : Nat) (hs : s < 8) (k : Int) (hk : num k) (m : jM) (hC : CI m) (h : tat (m s) k = -2) : ConL X yL_steps cL_steps 5 (some .int) [(0, 10, 13, 13), (0, 10, 17, 15), (0, 10, 21, 69)] 13 [vR 2 38, vI s, vI k, vR 2 59] m (fun o m' => o = some (vI 3) ∧ m' = m) := by
  refine ConL.of hX (by decide) (Nat.le_of_ble_eq_true rfl) (fun F hF hQ => ?_)
  refine g_aload_n hF (by decide +kernel : decode cL_steps 0 = .ok (.aload_n 3, 1)) rfl ?_
  refine g_iconst hF (by decide +kernel : decode cL_steps 1 = .ok (.iconst 0, 1)) ?_
  refine g_aload_n hF (by decide +kernel : decode cL_steps 2 = .ok (.aload_n 0, 1)) rfl ?_
  refine g_iload_n hF (by decide +kernel : decode cL_steps 3 = .ok (.iload_n 1, 1)) rfl ?_
  refine g_iload_n hF (by decide +kernel : decode cL_steps 4 = .ok (.iload_n 2, 1)) rfl ?_
  exact g_tryV hF hQ lkL_128 (xc_X4_steps X hX s hs k hk m hC h) (by decide +kernel : decode cL_steps 5 = .ok (.invokevirtual 128, 3)) (by decide) rfl rfl rfl rfl jok38 (Nat.le_of_ble_eq_true rfl) [⟨0, 10, 13, 13⟩, ⟨0, 10, 17, 15⟩] ⟨0, 10, 21, 69⟩ [] rfl (List.forall_mem_cons.mpr ⟨⟨by decide, "java/lang/IndexOutOfBoundsException", clL_13, by decide +kernel⟩, (List.forall_mem_cons.mpr ⟨⟨by decide, "java/lang/IllegalArgumentException", clL_15, by decide +kernel⟩, (fun _ h => absurd h List.not_mem_nil)⟩)⟩) (by decide) (by decide) clL_69 cast_NoSuchElementException (i := 4) (la := 2) (Or.inr ⟨(by decide +kernel : decode cL_steps 21 = .ok (.astore 4, 2)), rfl⟩) (by decide) (by decide +kernel : decode cL_steps (21 + 2) = .ok (.iconst 3, 1)) (by decide +kernel : decode cL_steps (21 + 2 + 1) = .ok (.ireturn, 1)) (fun m9 h9 => ⟨rfl, h9⟩)
set_option maxHeartbeats 4000000 in
set_option maxRecDepth 100000 in
theorem lc_ring (X : jX) (hX : jxok X) (s : Nat) (hs : s < 8) (k : Int) (hk : num k) (m : jM) (hC : CI m) (h : ¬ tat (m s) k = -2) : ConL X yL_ring cL_ring 5 (some .int) [(0, 10, 13, 13), (0, 10, 17, 15), (0, 10, 21, 69)] 13 [vR 2 38, vI s, vI k, vR 2 59] m (fun o m' => o = some (vI 0) ∧ ∃ m1 : jM, CQ m m1 ∧ m' = mset m1 59 0 (jnI ((ringV (m s) k)))) := by
  refine ConL.of hX (by decide) (Nat.le_of_ble_eq_true rfl) (fun F hF hQ => ?_)
  refine g_aload_n hF (by decide +kernel : decode cL_ring 0 = .ok (.aload_n 3, 1)) rfl ?_
  refine g_iconst hF (by decide +kernel : decode cL_ring 1 = .ok (.iconst 0, 1)) ?_
  refine g_aload_n hF (by decide +kernel : decode cL_ring 2 = .ok (.aload_n 0, 1)) rfl ?_
  refine g_iload_n hF (by decide +kernel : decode cL_ring 3 = .ok (.iload_n 1, 1)) rfl ?_
  refine g_iload_n hF (by decide +kernel : decode cL_ring 4 = .ok (.iload_n 2, 1)) rfl ?_
  refine g_callV hF lkL_131 (c_X4_ring X hX s hs k hk m hC h) (by decide +kernel : decode cL_ring 5 = .ok (.invokevirtual 131, 3)) (by decide) rfl rfl rfl rfl jok38 (Nat.le_of_ble_eq_true rfl) (fun v5 m5 h5 => ?_)
  obtain ⟨rfl, e5⟩ := h5
  refine g_i2lN hF (by decide +kernel : decode cL_ring 8 = .ok (.i2l, 1)) ?_
  refine g_lastore hF (by decide +kernel : decode cL_ring 9 = .ok (.lastore, 1)) ?_
  refine g_goto hF (tgt := 25) (by decide +kernel : decode cL_ring 10 = .ok (.goto 15, 3)) (by decide) ?_
  refine g_iconst hF (by decide +kernel : decode cL_ring 25 = .ok (.iconst 0, 1)) ?_
  refine g_ireturnL hF hQ (by decide +kernel : decode cL_ring 26 = .ok (.ireturn, 1)) ?_
  exact ⟨rfl, m5, e5, rfl⟩
set_option maxHeartbeats 4000000 in
set_option maxRecDepth 100000 in
theorem lxa_ring (X : jX) (hX : jxok X) (s : Int) (js : jr s) (k : Int) (jk : jr k) (m : jM) (h : ¬ (0 ≤ s ∧ s < 8)) : ConL X yL_ring cL_ring 5 (some .int) [(0, 10, 13, 13), (0, 10, 17, 15), (0, 10, 21, 69)] 13 [vR 2 38, vI s, vI k, vR 2 59] m (fun o m' => o = some (vI 1) ∧ m' = m) := by
  refine ConL.of hX (by decide) (Nat.le_of_ble_eq_true rfl) (fun F hF hQ => ?_)
  refine g_aload_n hF (by decide +kernel : decode cL_ring 0 = .ok (.aload_n 3, 1)) rfl ?_
  refine g_iconst hF (by decide +kernel : decode cL_ring 1 = .ok (.iconst 0, 1)) ?_
  refine g_aload_n hF (by decide +kernel : decode cL_ring 2 = .ok (.aload_n 0, 1)) rfl ?_
  refine g_iload_n hF (by decide +kernel : decode cL_ring 3 = .ok (.iload_n 1, 1)) rfl ?_
  refine g_iload_n hF (by decide +kernel : decode cL_ring 4 = .ok (.iload_n 2, 1)) rfl ?_
  exact g_tryV hF hQ lkL_131 (xa_X4_ring X hX s js k jk m h) (by decide +kernel : decode cL_ring 5 = .ok (.invokevirtual 131, 3)) (by decide) rfl rfl rfl rfl jok38 (Nat.le_of_ble_eq_true rfl) [] ⟨0, 10, 13, 13⟩ [⟨0, 10, 17, 15⟩, ⟨0, 10, 21, 69⟩] rfl (fun _ h => absurd h List.not_mem_nil) (by decide) (by decide) clL_13 cast_IndexOutOfBoundsException (i := 4) (la := 2) (Or.inr ⟨(by decide +kernel : decode cL_ring 13 = .ok (.astore 4, 2)), rfl⟩) (by decide) (by decide +kernel : decode cL_ring (13 + 2) = .ok (.iconst 1, 1)) (by decide +kernel : decode cL_ring (13 + 2 + 1) = .ok (.ireturn, 1)) (fun m9 h9 => ⟨rfl, h9⟩)
set_option maxHeartbeats 4000000 in
set_option maxRecDepth 100000 in
theorem lxb_ring (X : jX) (hX : jxok X) (s : Nat) (hs : s < 8) (k : Int) (jk : jr k) (m : jM) (hC : CI m) (h : ¬ num k) : ConL X yL_ring cL_ring 5 (some .int) [(0, 10, 13, 13), (0, 10, 17, 15), (0, 10, 21, 69)] 13 [vR 2 38, vI s, vI k, vR 2 59] m (fun o m' => o = some (vI 2) ∧ m' = m) := by
  refine ConL.of hX (by decide) (Nat.le_of_ble_eq_true rfl) (fun F hF hQ => ?_)
  refine g_aload_n hF (by decide +kernel : decode cL_ring 0 = .ok (.aload_n 3, 1)) rfl ?_
  refine g_iconst hF (by decide +kernel : decode cL_ring 1 = .ok (.iconst 0, 1)) ?_
  refine g_aload_n hF (by decide +kernel : decode cL_ring 2 = .ok (.aload_n 0, 1)) rfl ?_
  refine g_iload_n hF (by decide +kernel : decode cL_ring 3 = .ok (.iload_n 1, 1)) rfl ?_
  refine g_iload_n hF (by decide +kernel : decode cL_ring 4 = .ok (.iload_n 2, 1)) rfl ?_
  exact g_tryV hF hQ lkL_131 (xb_X4_ring X hX s hs k jk m hC h) (by decide +kernel : decode cL_ring 5 = .ok (.invokevirtual 131, 3)) (by decide) rfl rfl rfl rfl jok38 (Nat.le_of_ble_eq_true rfl) [⟨0, 10, 13, 13⟩] ⟨0, 10, 17, 15⟩ [⟨0, 10, 21, 69⟩] rfl (List.forall_mem_cons.mpr ⟨⟨by decide, "java/lang/IndexOutOfBoundsException", clL_13, by decide +kernel⟩, (fun _ h => absurd h List.not_mem_nil)⟩) (by decide) (by decide) clL_15 cast_IllegalArgumentException (i := 4) (la := 2) (Or.inr ⟨(by decide +kernel : decode cL_ring 17 = .ok (.astore 4, 2)), rfl⟩) (by decide) (by decide +kernel : decode cL_ring (17 + 2) = .ok (.iconst 2, 1)) (by decide +kernel : decode cL_ring (17 + 2 + 1) = .ok (.ireturn, 1)) (fun m9 h9 => ⟨rfl, h9⟩)
set_option maxHeartbeats 4000000 in
set_option maxRecDepth 100000 in
theorem lxc_ring (X : jX) (hX : jxok X) (s : Nat) (hs : s < 8) (k : Int) (hk : num k) (m : jM) (hC : CI m) (h : tat (m s) k = -2) : ConL X yL_ring cL_ring 5 (some .int) [(0, 10, 13, 13), (0, 10, 17, 15), (0, 10, 21, 69)] 13 [vR 2 38, vI s, vI k, vR 2 59] m (fun o m' => o = some (vI 3) ∧ m' = m) := by
  refine ConL.of hX (by decide) (Nat.le_of_ble_eq_true rfl) (fun F hF hQ => ?_)
  refine g_aload_n hF (by decide +kernel : decode cL_ring 0 = .ok (.aload_n 3, 1)) rfl ?_
  refine g_iconst hF (by decide +kernel : decode cL_ring 1 = .ok (.iconst 0, 1)) ?_
  refine g_aload_n hF (by decide +kernel : decode cL_ring 2 = .ok (.aload_n 0, 1)) rfl ?_
  refine g_iload_n hF (by decide +kernel : decode cL_ring 3 = .ok (.iload_n 1, 1)) rfl ?_
  refine g_iload_n hF (by decide +kernel : decode cL_ring 4 = .ok (.iload_n 2, 1)) rfl ?_
  exact g_tryV hF hQ lkL_131 (xc_X4_ring X hX s hs k hk m hC h) (by decide +kernel : decode cL_ring 5 = .ok (.invokevirtual 131, 3)) (by decide) rfl rfl rfl rfl jok38 (Nat.le_of_ble_eq_true rfl) [⟨0, 10, 13, 13⟩, ⟨0, 10, 17, 15⟩] ⟨0, 10, 21, 69⟩ [] rfl (List.forall_mem_cons.mpr ⟨⟨by decide, "java/lang/IndexOutOfBoundsException", clL_13, by decide +kernel⟩, (List.forall_mem_cons.mpr ⟨⟨by decide, "java/lang/IllegalArgumentException", clL_15, by decide +kernel⟩, (fun _ h => absurd h List.not_mem_nil)⟩)⟩) (by decide) (by decide) clL_69 cast_NoSuchElementException (i := 4) (la := 2) (Or.inr ⟨(by decide +kernel : decode cL_ring 21 = .ok (.astore 4, 2)), rfl⟩) (by decide) (by decide +kernel : decode cL_ring (21 + 2) = .ok (.iconst 3, 1)) (by decide +kernel : decode cL_ring (21 + 2 + 1) = .ok (.ireturn, 1)) (fun m9 h9 => ⟨rfl, h9⟩)
set_option maxHeartbeats 4000000 in
set_option maxRecDepth 100000 in
theorem lc_order (X : jX) (hX : jxok X) (s : Nat) (hs : s < 8) (m : jM) (hC : CI m) (hi : inside (m s)) (ho : once (m s)) : ConL X yL_order cL_order 4 (some .int) [(0, 8, 11, 13), (0, 8, 14, 116)] 13 [vR 2 38, vI s, vR 2 59] m (fun o m' => o = some (vI 0) ∧ ∃ m1 : jM, CQ m m1 ∧ m' = mset m1 59 0 (((lcmN (m s) 257 : Nat) : Int))) := by
  refine ConL.of hX (by decide) (Nat.le_of_ble_eq_true rfl) (fun F hF hQ => ?_)
  refine g_aload_n hF (by decide +kernel : decode cL_order 0 = .ok (.aload_n 2, 1)) rfl ?_
  refine g_iconst hF (by decide +kernel : decode cL_order 1 = .ok (.iconst 0, 1)) ?_
  refine g_aload_n hF (by decide +kernel : decode cL_order 2 = .ok (.aload_n 0, 1)) rfl ?_
  refine g_iload_n hF (by decide +kernel : decode cL_order 3 = .ok (.iload_n 1, 1)) rfl ?_
  refine g_callV hF lkL_134 (c_X4_order X hX s hs m hC hi ho) (by decide +kernel : decode cL_order 4 = .ok (.invokevirtual 134, 3)) (by decide) rfl rfl rfl rfl jok38 (Nat.le_of_ble_eq_true rfl) (fun v4 m4 h4 => ?_)
  obtain ⟨rfl, e4⟩ := h4
  refine g_lastore hF (by decide +kernel : decode cL_order 7 = .ok (.lastore, 1)) ?_
  refine g_goto hF (tgt := 17) (by decide +kernel : decode cL_order 8 = .ok (.goto 9, 3)) (by decide) ?_
  refine g_iconst hF (by decide +kernel : decode cL_order 17 = .ok (.iconst 0, 1)) ?_
  refine g_ireturnL hF hQ (by decide +kernel : decode cL_order 18 = .ok (.ireturn, 1)) ?_
  exact ⟨rfl, m4, e4, rfl⟩
set_option maxHeartbeats 4000000 in
set_option maxRecDepth 100000 in
theorem lxa_order (X : jX) (hX : jxok X) (s : Int) (js : jr s) (m : jM) (h : ¬ ((0 ≤ s ∧ s < 8))) : ConL X yL_order cL_order 4 (some .int) [(0, 8, 11, 13), (0, 8, 14, 116)] 13 [vR 2 38, vI s, vR 2 59] m (fun o m' => o = some (vI 1) ∧ m' = m) := by
  refine ConL.of hX (by decide) (Nat.le_of_ble_eq_true rfl) (fun F hF hQ => ?_)
  refine g_aload_n hF (by decide +kernel : decode cL_order 0 = .ok (.aload_n 2, 1)) rfl ?_
  refine g_iconst hF (by decide +kernel : decode cL_order 1 = .ok (.iconst 0, 1)) ?_
  refine g_aload_n hF (by decide +kernel : decode cL_order 2 = .ok (.aload_n 0, 1)) rfl ?_
  refine g_iload_n hF (by decide +kernel : decode cL_order 3 = .ok (.iload_n 1, 1)) rfl ?_
  exact g_tryV hF hQ lkL_134 (xa_X4_order X hX s js m h) (by decide +kernel : decode cL_order 4 = .ok (.invokevirtual 134, 3)) (by decide) rfl rfl rfl rfl jok38 (Nat.le_of_ble_eq_true rfl) [] ⟨0, 8, 11, 13⟩ [⟨0, 8, 14, 116⟩] rfl (fun _ h => absurd h List.not_mem_nil) (by decide) (by decide) clL_13 cast_IndexOutOfBoundsException (i := 3) (la := 1) (Or.inl ⟨3, (by decide +kernel : decode cL_order 11 = .ok (.astore_n 3, 1)), rfl, rfl⟩) (by decide) (by decide +kernel : decode cL_order (11 + 1) = .ok (.iconst 1, 1)) (by decide +kernel : decode cL_order (11 + 1 + 1) = .ok (.ireturn, 1)) (fun m9 h9 => ⟨rfl, h9⟩)
set_option maxHeartbeats 4000000 in
set_option maxRecDepth 100000 in
theorem lxb_order (X : jX) (hX : jxok X) (s : Nat) (hs : s < 8) (m : jM) (hC : CI m) (h : ¬ (inside (m s) ∧ once (m s))) : ConL X yL_order cL_order 4 (some .int) [(0, 8, 11, 13), (0, 8, 14, 116)] 13 [vR 2 38, vI s, vR 2 59] m (fun o m' => o = some (vI 2) ∧ CQ m m') := by
  refine ConL.of hX (by decide) (Nat.le_of_ble_eq_true rfl) (fun F hF hQ => ?_)
  refine g_aload_n hF (by decide +kernel : decode cL_order 0 = .ok (.aload_n 2, 1)) rfl ?_
  refine g_iconst hF (by decide +kernel : decode cL_order 1 = .ok (.iconst 0, 1)) ?_
  refine g_aload_n hF (by decide +kernel : decode cL_order 2 = .ok (.aload_n 0, 1)) rfl ?_
  refine g_iload_n hF (by decide +kernel : decode cL_order 3 = .ok (.iload_n 1, 1)) rfl ?_
  exact g_tryV hF hQ lkL_134 (xb_X4_order X hX s hs m hC h) (by decide +kernel : decode cL_order 4 = .ok (.invokevirtual 134, 3)) (by decide) rfl rfl rfl rfl jok38 (Nat.le_of_ble_eq_true rfl) [⟨0, 8, 11, 13⟩] ⟨0, 8, 14, 116⟩ [] rfl (List.forall_mem_cons.mpr ⟨⟨by decide, "java/lang/IndexOutOfBoundsException", clL_13, by decide +kernel⟩, (fun _ h => absurd h List.not_mem_nil)⟩) (by decide) (by decide) clL_116 cast_UnsupportedOperationException (i := 3) (la := 1) (Or.inl ⟨3, (by decide +kernel : decode cL_order 14 = .ok (.astore_n 3, 1)), rfl, rfl⟩) (by decide) (by decide +kernel : decode cL_order (14 + 1) = .ok (.iconst 2, 1)) (by decide +kernel : decode cL_order (14 + 1 + 1) = .ok (.ireturn, 1)) (fun m9 h9 => ⟨rfl, h9⟩)
set_option maxHeartbeats 4000000 in
set_option maxRecDepth 100000 in
theorem lc_say (X : jX) (hX : jxok X) (k v : Int) (hk : num k) (hv : num v) (w : Nat) (m : jM) (hC : CI m) (hw : rwok m w) (hf : w < 60) : ConL X yL_say cL_say 5 (some .int) [(0, 10, 13, 15), (0, 10, 17, 141)] 13 [vR 2 38, vI k, vI v, vR 2 59] m (fun o m' => o = some (vI 0) ∧ ∃ m1 : jM, CR m (w + 1) (fun z => if z = w then k else m 41 z) (fun z => if z = w then v else m 42 z) m1 ∧ m' = mset m1 59 0 (jnI ((w + 1)))) := by
  refine ConL.of hX (by decide) (Nat.le_of_ble_eq_true rfl) (fun F hF hQ => ?_)
  refine g_aload_n hF (by decide +kernel : decode cL_say 0 = .ok (.aload_n 3, 1)) rfl ?_
  refine g_iconst hF (by decide +kernel : decode cL_say 1 = .ok (.iconst 0, 1)) ?_
  refine g_aload_n hF (by decide +kernel : decode cL_say 2 = .ok (.aload_n 0, 1)) rfl ?_
  refine g_iload_n hF (by decide +kernel : decode cL_say 3 = .ok (.iload_n 1, 1)) rfl ?_
  refine g_iload_n hF (by decide +kernel : decode cL_say 4 = .ok (.iload_n 2, 1)) rfl ?_
  refine g_callV hF lkL_138 (c_X4_say X hX k v hk hv w m hC hw hf) (by decide +kernel : decode cL_say 5 = .ok (.invokevirtual 138, 3)) (by decide) rfl rfl rfl rfl jok38 (Nat.le_of_ble_eq_true rfl) (fun v5 m5 h5 => ?_)
  obtain ⟨rfl, e5⟩ := h5
  refine g_i2lN hF (by decide +kernel : decode cL_say 8 = .ok (.i2l, 1)) ?_
  refine g_lastore hF (by decide +kernel : decode cL_say 9 = .ok (.lastore, 1)) ?_
  refine g_goto hF (tgt := 21) (by decide +kernel : decode cL_say 10 = .ok (.goto 11, 3)) (by decide) ?_
  refine g_iconst hF (by decide +kernel : decode cL_say 21 = .ok (.iconst 0, 1)) ?_
  refine g_ireturnL hF hQ (by decide +kernel : decode cL_say 22 = .ok (.ireturn, 1)) ?_
  exact ⟨rfl, m5, e5, rfl⟩
set_option maxHeartbeats 4000000 in
set_option maxRecDepth 100000 in
theorem lxa_say (X : jX) (hX : jxok X) (k : Int) (jk : jr k) (v : Int) (jv : jr v) (m : jM) (h : ¬ (num k ∧ num v)) : ConL X yL_say cL_say 5 (some .int) [(0, 10, 13, 15), (0, 10, 17, 141)] 13 [vR 2 38, vI k, vI v, vR 2 59] m (fun o m' => o = some (vI 1) ∧ m' = m) := by
  refine ConL.of hX (by decide) (Nat.le_of_ble_eq_true rfl) (fun F hF hQ => ?_)
  refine g_aload_n hF (by decide +kernel : decode cL_say 0 = .ok (.aload_n 3, 1)) rfl ?_
  refine g_iconst hF (by decide +kernel : decode cL_say 1 = .ok (.iconst 0, 1)) ?_
  refine g_aload_n hF (by decide +kernel : decode cL_say 2 = .ok (.aload_n 0, 1)) rfl ?_
  refine g_iload_n hF (by decide +kernel : decode cL_say 3 = .ok (.iload_n 1, 1)) rfl ?_
  refine g_iload_n hF (by decide +kernel : decode cL_say 4 = .ok (.iload_n 2, 1)) rfl ?_
  exact g_tryV hF hQ lkL_138 (xa_X4_say X hX k jk v jv m h) (by decide +kernel : decode cL_say 5 = .ok (.invokevirtual 138, 3)) (by decide) rfl rfl rfl rfl jok38 (Nat.le_of_ble_eq_true rfl) [] ⟨0, 10, 13, 15⟩ [⟨0, 10, 17, 141⟩] rfl (fun _ h => absurd h List.not_mem_nil) (by decide) (by decide) clL_15 cast_IllegalArgumentException (i := 4) (la := 2) (Or.inr ⟨(by decide +kernel : decode cL_say 13 = .ok (.astore 4, 2)), rfl⟩) (by decide) (by decide +kernel : decode cL_say (13 + 2) = .ok (.iconst 1, 1)) (by decide +kernel : decode cL_say (13 + 2 + 1) = .ok (.ireturn, 1)) (fun m9 h9 => ⟨rfl, h9⟩)
set_option maxHeartbeats 4000000 in
set_option maxRecDepth 100000 in
theorem lxb_say (X : jX) (hX : jxok X) (k v : Int) (hk : num k) (hv : num v) (w : Nat) (m : jM) (hw : rwok m w) (h : w = 60) : ConL X yL_say cL_say 5 (some .int) [(0, 10, 13, 15), (0, 10, 17, 141)] 13 [vR 2 38, vI k, vI v, vR 2 59] m (fun o m' => o = some (vI 2) ∧ m' = m) := by
  refine ConL.of hX (by decide) (Nat.le_of_ble_eq_true rfl) (fun F hF hQ => ?_)
  refine g_aload_n hF (by decide +kernel : decode cL_say 0 = .ok (.aload_n 3, 1)) rfl ?_
  refine g_iconst hF (by decide +kernel : decode cL_say 1 = .ok (.iconst 0, 1)) ?_
  refine g_aload_n hF (by decide +kernel : decode cL_say 2 = .ok (.aload_n 0, 1)) rfl ?_
  refine g_iload_n hF (by decide +kernel : decode cL_say 3 = .ok (.iload_n 1, 1)) rfl ?_
  refine g_iload_n hF (by decide +kernel : decode cL_say 4 = .ok (.iload_n 2, 1)) rfl ?_
  exact g_tryV hF hQ lkL_138 (xb_X4_say X hX k v hk hv w m hw h) (by decide +kernel : decode cL_say 5 = .ok (.invokevirtual 138, 3)) (by decide) rfl rfl rfl rfl jok38 (Nat.le_of_ble_eq_true rfl) [⟨0, 10, 13, 15⟩] ⟨0, 10, 17, 141⟩ [] rfl (List.forall_mem_cons.mpr ⟨⟨by decide, "java/lang/IllegalArgumentException", clL_15, by decide +kernel⟩, (fun _ h => absurd h List.not_mem_nil)⟩) (by decide) (by decide) clL_141 cast_IllegalStateException (i := 4) (la := 2) (Or.inr ⟨(by decide +kernel : decode cL_say 17 = .ok (.astore 4, 2)), rfl⟩) (by decide) (by decide +kernel : decode cL_say (17 + 2) = .ok (.iconst 2, 1)) (by decide +kernel : decode cL_say (17 + 2 + 1) = .ok (.ireturn, 1)) (fun m9 h9 => ⟨rfl, h9⟩)
set_option maxHeartbeats 4000000 in
set_option maxRecDepth 100000 in
theorem lc_unsay (X : jX) (hX : jxok X) (k : Int) (hk : num k) (w : Nat) (m : jM) (hC : CI m) (hw : rwok m w) (hf : w < 60) : ConL X yL_unsay cL_unsay 4 (some .int) [(0, 9, 12, 15), (0, 9, 15, 141)] 13 [vR 2 38, vI k, vR 2 59] m (fun o m' => o = some (vI 0) ∧ ∃ m1 : jM, CR m (w + 1) (fun z => if z = w then k else m 41 z) (fun z => if z = w then (-2) else m 42 z) m1 ∧ m' = mset m1 59 0 (jnI ((w + 1)))) := by
  refine ConL.of hX (by decide) (Nat.le_of_ble_eq_true rfl) (fun F hF hQ => ?_)
  refine g_aload_n hF (by decide +kernel : decode cL_unsay 0 = .ok (.aload_n 2, 1)) rfl ?_
  refine g_iconst hF (by decide +kernel : decode cL_unsay 1 = .ok (.iconst 0, 1)) ?_
  refine g_aload_n hF (by decide +kernel : decode cL_unsay 2 = .ok (.aload_n 0, 1)) rfl ?_
  refine g_iload_n hF (by decide +kernel : decode cL_unsay 3 = .ok (.iload_n 1, 1)) rfl ?_
  refine g_callV hF lkL_143 (c_X4_unsay X hX k hk w m hC hw hf) (by decide +kernel : decode cL_unsay 4 = .ok (.invokevirtual 143, 3)) (by decide) rfl rfl rfl rfl jok38 (Nat.le_of_ble_eq_true rfl) (fun v4 m4 h4 => ?_)
  obtain ⟨rfl, e4⟩ := h4
  refine g_i2lN hF (by decide +kernel : decode cL_unsay 7 = .ok (.i2l, 1)) ?_
  refine g_lastore hF (by decide +kernel : decode cL_unsay 8 = .ok (.lastore, 1)) ?_
  refine g_goto hF (tgt := 18) (by decide +kernel : decode cL_unsay 9 = .ok (.goto 9, 3)) (by decide) ?_
  refine g_iconst hF (by decide +kernel : decode cL_unsay 18 = .ok (.iconst 0, 1)) ?_
  refine g_ireturnL hF hQ (by decide +kernel : decode cL_unsay 19 = .ok (.ireturn, 1)) ?_
  exact ⟨rfl, m4, e4, rfl⟩
set_option maxHeartbeats 4000000 in
set_option maxRecDepth 100000 in
theorem lxa_unsay (X : jX) (hX : jxok X) (k : Int) (jk : jr k) (m : jM) (h : ¬ (num k)) : ConL X yL_unsay cL_unsay 4 (some .int) [(0, 9, 12, 15), (0, 9, 15, 141)] 13 [vR 2 38, vI k, vR 2 59] m (fun o m' => o = some (vI 1) ∧ m' = m) := by
  refine ConL.of hX (by decide) (Nat.le_of_ble_eq_true rfl) (fun F hF hQ => ?_)
  refine g_aload_n hF (by decide +kernel : decode cL_unsay 0 = .ok (.aload_n 2, 1)) rfl ?_
  refine g_iconst hF (by decide +kernel : decode cL_unsay 1 = .ok (.iconst 0, 1)) ?_
  refine g_aload_n hF (by decide +kernel : decode cL_unsay 2 = .ok (.aload_n 0, 1)) rfl ?_
  refine g_iload_n hF (by decide +kernel : decode cL_unsay 3 = .ok (.iload_n 1, 1)) rfl ?_
  exact g_tryV hF hQ lkL_143 (xa_X4_unsay X hX k jk m h) (by decide +kernel : decode cL_unsay 4 = .ok (.invokevirtual 143, 3)) (by decide) rfl rfl rfl rfl jok38 (Nat.le_of_ble_eq_true rfl) [] ⟨0, 9, 12, 15⟩ [⟨0, 9, 15, 141⟩] rfl (fun _ h => absurd h List.not_mem_nil) (by decide) (by decide) clL_15 cast_IllegalArgumentException (i := 3) (la := 1) (Or.inl ⟨3, (by decide +kernel : decode cL_unsay 12 = .ok (.astore_n 3, 1)), rfl, rfl⟩) (by decide) (by decide +kernel : decode cL_unsay (12 + 1) = .ok (.iconst 1, 1)) (by decide +kernel : decode cL_unsay (12 + 1 + 1) = .ok (.ireturn, 1)) (fun m9 h9 => ⟨rfl, h9⟩)
set_option maxHeartbeats 4000000 in
set_option maxRecDepth 100000 in
theorem lxb_unsay (X : jX) (hX : jxok X) (k : Int) (hk : num k) (w : Nat) (m : jM) (hw : rwok m w) (h : w = 60) : ConL X yL_unsay cL_unsay 4 (some .int) [(0, 9, 12, 15), (0, 9, 15, 141)] 13 [vR 2 38, vI k, vR 2 59] m (fun o m' => o = some (vI 2) ∧ m' = m) := by
  refine ConL.of hX (by decide) (Nat.le_of_ble_eq_true rfl) (fun F hF hQ => ?_)
  refine g_aload_n hF (by decide +kernel : decode cL_unsay 0 = .ok (.aload_n 2, 1)) rfl ?_
  refine g_iconst hF (by decide +kernel : decode cL_unsay 1 = .ok (.iconst 0, 1)) ?_
  refine g_aload_n hF (by decide +kernel : decode cL_unsay 2 = .ok (.aload_n 0, 1)) rfl ?_
  refine g_iload_n hF (by decide +kernel : decode cL_unsay 3 = .ok (.iload_n 1, 1)) rfl ?_
  exact g_tryV hF hQ lkL_143 (xb_X4_unsay X hX k hk w m hw h) (by decide +kernel : decode cL_unsay 4 = .ok (.invokevirtual 143, 3)) (by decide) rfl rfl rfl rfl jok38 (Nat.le_of_ble_eq_true rfl) [⟨0, 9, 12, 15⟩] ⟨0, 9, 15, 141⟩ [] rfl (List.forall_mem_cons.mpr ⟨⟨by decide, "java/lang/IllegalArgumentException", clL_15, by decide +kernel⟩, (fun _ h => absurd h List.not_mem_nil)⟩) (by decide) (by decide) clL_141 cast_IllegalStateException (i := 3) (la := 1) (Or.inl ⟨3, (by decide +kernel : decode cL_unsay 15 = .ok (.astore_n 3, 1)), rfl, rfl⟩) (by decide) (by decide +kernel : decode cL_unsay (15 + 1) = .ok (.iconst 2, 1)) (by decide +kernel : decode cL_unsay (15 + 1 + 1) = .ok (.ireturn, 1)) (fun m9 h9 => ⟨rfl, h9⟩)
set_option maxHeartbeats 4000000 in
set_option maxRecDepth 100000 in
theorem lc_stir (X : jX) (hX : jxok X) (s : Int) (hs : 1 ≤ s ∧ s ≤ 2147483646) (w : Nat) (m : jM) (hC : CI m) (hw : rwok m w) : ConL X yL_stir cL_stir 4 (some .int) [(0, 9, 12, 15)] 13 [vR 2 38, vI s, vR 2 59] m (fun o m' => o = some (vI 0) ∧ ∃ m1 : jM, CR m w (stirN w s (m 41) (m 42) w).2.1 (stirN w s (m 41) (m 42) w).2.2.1 m1 ∧ m' = mset m1 59 0 (jnI ((stirN w s (m 41) (m 42) w).2.2.2))) := by
  refine ConL.of hX (by decide) (Nat.le_of_ble_eq_true rfl) (fun F hF hQ => ?_)
  refine g_aload_n hF (by decide +kernel : decode cL_stir 0 = .ok (.aload_n 2, 1)) rfl ?_
  refine g_iconst hF (by decide +kernel : decode cL_stir 1 = .ok (.iconst 0, 1)) ?_
  refine g_aload_n hF (by decide +kernel : decode cL_stir 2 = .ok (.aload_n 0, 1)) rfl ?_
  refine g_iload_n hF (by decide +kernel : decode cL_stir 3 = .ok (.iload_n 1, 1)) rfl ?_
  refine g_callV hF lkL_146 (c_X4_stir X hX s hs w m hC hw) (by decide +kernel : decode cL_stir 4 = .ok (.invokevirtual 146, 3)) (by decide) rfl rfl rfl rfl jok38 (Nat.le_of_ble_eq_true rfl) (fun v4 m4 h4 => ?_)
  obtain ⟨rfl, e4⟩ := h4
  refine g_i2lN hF (by decide +kernel : decode cL_stir 7 = .ok (.i2l, 1)) ?_
  refine g_lastore hF (by decide +kernel : decode cL_stir 8 = .ok (.lastore, 1)) ?_
  refine g_goto hF (tgt := 15) (by decide +kernel : decode cL_stir 9 = .ok (.goto 6, 3)) (by decide) ?_
  refine g_iconst hF (by decide +kernel : decode cL_stir 15 = .ok (.iconst 0, 1)) ?_
  refine g_ireturnL hF hQ (by decide +kernel : decode cL_stir 16 = .ok (.ireturn, 1)) ?_
  exact ⟨rfl, m4, e4, rfl⟩
set_option maxHeartbeats 4000000 in
set_option maxRecDepth 100000 in
theorem lxa_stir (X : jX) (hX : jxok X) (s : Int) (js : jr s) (m : jM) (h : ¬ ((1 ≤ s ∧ s ≤ 2147483646))) : ConL X yL_stir cL_stir 4 (some .int) [(0, 9, 12, 15)] 13 [vR 2 38, vI s, vR 2 59] m (fun o m' => o = some (vI 1) ∧ m' = m) := by
  refine ConL.of hX (by decide) (Nat.le_of_ble_eq_true rfl) (fun F hF hQ => ?_)
  refine g_aload_n hF (by decide +kernel : decode cL_stir 0 = .ok (.aload_n 2, 1)) rfl ?_
  refine g_iconst hF (by decide +kernel : decode cL_stir 1 = .ok (.iconst 0, 1)) ?_
  refine g_aload_n hF (by decide +kernel : decode cL_stir 2 = .ok (.aload_n 0, 1)) rfl ?_
  refine g_iload_n hF (by decide +kernel : decode cL_stir 3 = .ok (.iload_n 1, 1)) rfl ?_
  exact g_tryV hF hQ lkL_146 (xa_X4_stir X hX s js m h) (by decide +kernel : decode cL_stir 4 = .ok (.invokevirtual 146, 3)) (by decide) rfl rfl rfl rfl jok38 (Nat.le_of_ble_eq_true rfl) [] ⟨0, 9, 12, 15⟩ [] rfl (fun _ h => absurd h List.not_mem_nil) (by decide) (by decide) clL_15 cast_IllegalArgumentException (i := 3) (la := 1) (Or.inl ⟨3, (by decide +kernel : decode cL_stir 12 = .ok (.astore_n 3, 1)), rfl, rfl⟩) (by decide) (by decide +kernel : decode cL_stir (12 + 1) = .ok (.iconst 1, 1)) (by decide +kernel : decode cL_stir (12 + 1 + 1) = .ok (.ireturn, 1)) (fun m9 h9 => ⟨rfl, h9⟩)
set_option maxHeartbeats 4000000 in
set_option maxRecDepth 100000 in
theorem lc_play (X : jX) (hX : jxok X) (u : Nat) (hu : u < 8) (w : Nat) (m : jM) (hC : CI m) (hw : rwok m w) : ConL X yL_play cL_play 4 (some .int) [(0, 9, 12, 13)] 13 [vR 2 38, vI u, vR 2 59] m (fun o m' => o = some (vI 0) ∧ ∃ m1 : jM, CW m u (playN (m 41) (m 42) w) m1 ∧ m' = mset m1 59 0 (jnI ((cnt (playN (m 41) (m 42) w))))) := by
  refine ConL.of hX (by decide) (Nat.le_of_ble_eq_true rfl) (fun F hF hQ => ?_)
  refine g_aload_n hF (by decide +kernel : decode cL_play 0 = .ok (.aload_n 2, 1)) rfl ?_
  refine g_iconst hF (by decide +kernel : decode cL_play 1 = .ok (.iconst 0, 1)) ?_
  refine g_aload_n hF (by decide +kernel : decode cL_play 2 = .ok (.aload_n 0, 1)) rfl ?_
  refine g_iload_n hF (by decide +kernel : decode cL_play 3 = .ok (.iload_n 1, 1)) rfl ?_
  refine g_callV hF lkL_149 (c_X4_play X hX u hu w m hC hw) (by decide +kernel : decode cL_play 4 = .ok (.invokevirtual 149, 3)) (by decide) rfl rfl rfl rfl jok38 (Nat.le_of_ble_eq_true rfl) (fun v4 m4 h4 => ?_)
  obtain ⟨rfl, e4⟩ := h4
  refine g_i2lN hF (by decide +kernel : decode cL_play 7 = .ok (.i2l, 1)) ?_
  refine g_lastore hF (by decide +kernel : decode cL_play 8 = .ok (.lastore, 1)) ?_
  refine g_goto hF (tgt := 15) (by decide +kernel : decode cL_play 9 = .ok (.goto 6, 3)) (by decide) ?_
  refine g_iconst hF (by decide +kernel : decode cL_play 15 = .ok (.iconst 0, 1)) ?_
  refine g_ireturnL hF hQ (by decide +kernel : decode cL_play 16 = .ok (.ireturn, 1)) ?_
  exact ⟨rfl, m4, e4, rfl⟩
set_option maxHeartbeats 4000000 in
set_option maxRecDepth 100000 in
theorem lxa_play (X : jX) (hX : jxok X) (u : Int) (ju : jr u) (m : jM) (h : ¬ ((0 ≤ u ∧ u < 8))) : ConL X yL_play cL_play 4 (some .int) [(0, 9, 12, 13)] 13 [vR 2 38, vI u, vR 2 59] m (fun o m' => o = some (vI 1) ∧ m' = m) := by
  refine ConL.of hX (by decide) (Nat.le_of_ble_eq_true rfl) (fun F hF hQ => ?_)
  refine g_aload_n hF (by decide +kernel : decode cL_play 0 = .ok (.aload_n 2, 1)) rfl ?_
  refine g_iconst hF (by decide +kernel : decode cL_play 1 = .ok (.iconst 0, 1)) ?_
  refine g_aload_n hF (by decide +kernel : decode cL_play 2 = .ok (.aload_n 0, 1)) rfl ?_
  refine g_iload_n hF (by decide +kernel : decode cL_play 3 = .ok (.iload_n 1, 1)) rfl ?_
  exact g_tryV hF hQ lkL_149 (xa_X4_play X hX u ju m h) (by decide +kernel : decode cL_play 4 = .ok (.invokevirtual 149, 3)) (by decide) rfl rfl rfl rfl jok38 (Nat.le_of_ble_eq_true rfl) [] ⟨0, 9, 12, 13⟩ [] rfl (fun _ h => absurd h List.not_mem_nil) (by decide) (by decide) clL_13 cast_IndexOutOfBoundsException (i := 3) (la := 1) (Or.inl ⟨3, (by decide +kernel : decode cL_play 12 = .ok (.astore_n 3, 1)), rfl, rfl⟩) (by decide) (by decide +kernel : decode cL_play (12 + 1) = .ok (.iconst 1, 1)) (by decide +kernel : decode cL_play (12 + 1 + 1) = .ok (.ireturn, 1)) (fun m9 h9 => ⟨rfl, h9⟩)
set_option maxHeartbeats 4000000 in
set_option maxRecDepth 100000 in
theorem lc_playLast (X : jX) (hX : jxok X) (u : Nat) (hu : u < 8) (b : Int) (hb : jr b) (w : Nat) (m : jM) (hC : CI m) (hw : rwok m w) : ConL X yL_playLast cL_playLast 5 (some .int) [(0, 10, 13, 13)] 13 [vR 2 38, vI u, vI b, vR 2 59] m (fun o m' => o = some (vI 0) ∧ ∃ m1 : jM, CW m u (playN (m 41) (m 42) w) m1 ∧ m' = mset m1 59 0 (jnI ((cnt (playN (m 41) (m 42) w))))) := by
  refine ConL.of hX (by decide) (Nat.le_of_ble_eq_true rfl) (fun F hF hQ => ?_)
  refine g_aload_n hF (by decide +kernel : decode cL_playLast 0 = .ok (.aload_n 3, 1)) rfl ?_
  refine g_iconst hF (by decide +kernel : decode cL_playLast 1 = .ok (.iconst 0, 1)) ?_
  refine g_aload_n hF (by decide +kernel : decode cL_playLast 2 = .ok (.aload_n 0, 1)) rfl ?_
  refine g_iload_n hF (by decide +kernel : decode cL_playLast 3 = .ok (.iload_n 1, 1)) rfl ?_
  refine g_iload_n hF (by decide +kernel : decode cL_playLast 4 = .ok (.iload_n 2, 1)) rfl ?_
  refine g_callV hF lkL_152 (c_X4_playLast X hX u hu b hb w m hC hw) (by decide +kernel : decode cL_playLast 5 = .ok (.invokevirtual 152, 3)) (by decide) rfl rfl rfl rfl jok38 (Nat.le_of_ble_eq_true rfl) (fun v5 m5 h5 => ?_)
  obtain ⟨rfl, e5⟩ := h5
  refine g_i2lN hF (by decide +kernel : decode cL_playLast 8 = .ok (.i2l, 1)) ?_
  refine g_lastore hF (by decide +kernel : decode cL_playLast 9 = .ok (.lastore, 1)) ?_
  refine g_goto hF (tgt := 17) (by decide +kernel : decode cL_playLast 10 = .ok (.goto 7, 3)) (by decide) ?_
  refine g_iconst hF (by decide +kernel : decode cL_playLast 17 = .ok (.iconst 0, 1)) ?_
  refine g_ireturnL hF hQ (by decide +kernel : decode cL_playLast 18 = .ok (.ireturn, 1)) ?_
  exact ⟨rfl, m5, e5, rfl⟩
set_option maxHeartbeats 4000000 in
set_option maxRecDepth 100000 in
theorem lxa_playLast (X : jX) (hX : jxok X) (u : Int) (ju : jr u) (b : Int) (jb : jr b) (m : jM) (h : ¬ ((0 ≤ u ∧ u < 8))) : ConL X yL_playLast cL_playLast 5 (some .int) [(0, 10, 13, 13)] 13 [vR 2 38, vI u, vI b, vR 2 59] m (fun o m' => o = some (vI 1) ∧ m' = m) := by
  refine ConL.of hX (by decide) (Nat.le_of_ble_eq_true rfl) (fun F hF hQ => ?_)
  refine g_aload_n hF (by decide +kernel : decode cL_playLast 0 = .ok (.aload_n 3, 1)) rfl ?_
  refine g_iconst hF (by decide +kernel : decode cL_playLast 1 = .ok (.iconst 0, 1)) ?_
  refine g_aload_n hF (by decide +kernel : decode cL_playLast 2 = .ok (.aload_n 0, 1)) rfl ?_
  refine g_iload_n hF (by decide +kernel : decode cL_playLast 3 = .ok (.iload_n 1, 1)) rfl ?_
  refine g_iload_n hF (by decide +kernel : decode cL_playLast 4 = .ok (.iload_n 2, 1)) rfl ?_
  exact g_tryV hF hQ lkL_152 (xa_X4_playLast X hX u ju b jb m h) (by decide +kernel : decode cL_playLast 5 = .ok (.invokevirtual 152, 3)) (by decide) rfl rfl rfl rfl jok38 (Nat.le_of_ble_eq_true rfl) [] ⟨0, 10, 13, 13⟩ [] rfl (fun _ h => absurd h List.not_mem_nil) (by decide) (by decide) clL_13 cast_IndexOutOfBoundsException (i := 4) (la := 2) (Or.inr ⟨(by decide +kernel : decode cL_playLast 13 = .ok (.astore 4, 2)), rfl⟩) (by decide) (by decide +kernel : decode cL_playLast (13 + 2) = .ok (.iconst 1, 1)) (by decide +kernel : decode cL_playLast (13 + 2 + 1) = .ok (.ireturn, 1)) (fun m9 h9 => ⟨rfl, h9⟩)
set_option maxHeartbeats 4000000 in
set_option maxRecDepth 100000 in
theorem lc_undo (X : jX) (hX : jxok X) (m : jM) (hC : CI m) (hc : m 45 1 ≠ 0) : ConL X yL_undo cL_undo 3 (some .int) [(0, 8, 11, 69)] 13 [vR 2 38, vR 2 59] m (fun o m' => o = some (vI 0) ∧ ∃ (m1 : jM) (l t : Nat), CB m m1 l t ∧ m' = mset m1 59 0 (jnI t)) := by
  refine ConL.of hX (by decide) (Nat.le_of_ble_eq_true rfl) (fun F hF hQ => ?_)
  refine g_aload_n hF (by decide +kernel : decode cL_undo 0 = .ok (.aload_n 1, 1)) rfl ?_
  refine g_iconst hF (by decide +kernel : decode cL_undo 1 = .ok (.iconst 0, 1)) ?_
  refine g_aload_n hF (by decide +kernel : decode cL_undo 2 = .ok (.aload_n 0, 1)) rfl ?_
  refine g_callV hF lkL_156 (c_X4_undo X hX m hC hc) (by decide +kernel : decode cL_undo 3 = .ok (.invokevirtual 156, 3)) (by decide) rfl rfl rfl rfl jok38 (Nat.le_of_ble_eq_true rfl) (fun v3 m3 h3 => ?_)
  obtain ⟨l, t, rfl, e3⟩ := h3
  refine g_i2lN hF (by decide +kernel : decode cL_undo 6 = .ok (.i2l, 1)) ?_
  refine g_lastore hF (by decide +kernel : decode cL_undo 7 = .ok (.lastore, 1)) ?_
  refine g_goto hF (tgt := 14) (by decide +kernel : decode cL_undo 8 = .ok (.goto 6, 3)) (by decide) ?_
  refine g_iconst hF (by decide +kernel : decode cL_undo 14 = .ok (.iconst 0, 1)) ?_
  refine g_ireturnL hF hQ (by decide +kernel : decode cL_undo 15 = .ok (.ireturn, 1)) ?_
  exact ⟨rfl, m3, l, t, e3, rfl⟩
set_option maxHeartbeats 4000000 in
set_option maxRecDepth 100000 in
theorem lxa_undo (X : jX) (hX : jxok X) (m : jM) (hC : CI m) (h : m 45 1 = 0) : ConL X yL_undo cL_undo 3 (some .int) [(0, 8, 11, 69)] 13 [vR 2 38, vR 2 59] m (fun o m' => o = some (vI 1) ∧ m' = m) := by
  refine ConL.of hX (by decide) (Nat.le_of_ble_eq_true rfl) (fun F hF hQ => ?_)
  refine g_aload_n hF (by decide +kernel : decode cL_undo 0 = .ok (.aload_n 1, 1)) rfl ?_
  refine g_iconst hF (by decide +kernel : decode cL_undo 1 = .ok (.iconst 0, 1)) ?_
  refine g_aload_n hF (by decide +kernel : decode cL_undo 2 = .ok (.aload_n 0, 1)) rfl ?_
  exact g_tryV hF hQ lkL_156 (xa_X4_undo X hX m hC h) (by decide +kernel : decode cL_undo 3 = .ok (.invokevirtual 156, 3)) (by decide) rfl rfl rfl rfl jok38 (Nat.le_of_ble_eq_true rfl) [] ⟨0, 8, 11, 69⟩ [] rfl (fun _ h => absurd h List.not_mem_nil) (by decide) (by decide) clL_69 cast_NoSuchElementException (i := 2) (la := 1) (Or.inl ⟨2, (by decide +kernel : decode cL_undo 11 = .ok (.astore_n 2, 1)), rfl, rfl⟩) (by decide) (by decide +kernel : decode cL_undo (11 + 1) = .ok (.iconst 1, 1)) (by decide +kernel : decode cL_undo (11 + 1 + 1) = .ok (.ireturn, 1)) (fun m9 h9 => ⟨rfl, h9⟩)
set_option maxHeartbeats 4000000 in
set_option maxRecDepth 100000 in
theorem lc_share (X : jX) (hX : jxok X) (s : Nat) (hs : s < 8) (m : jM) (hC : CI m) (hn : cnt (m s) ≠ 0) : ConL X yL_share cL_share 4 (some .int) [(0, 9, 12, 13), (0, 9, 15, 164)] 13 [vR 2 38, vI s, vR 2 60] m (fun o m' => o = some (vI 0) ∧ ∃ m1 : jM, CQ m m1 ∧ m' = mset m1 60 0 (dI (FP.f2d ((shrV (selfN (m s)) (cnt (m s))))))) := by
  refine ConL.of hX (by decide) (Nat.le_of_ble_eq_true rfl) (fun F hF hQ => ?_)
  refine g_aload_n hF (by decide +kernel : decode cL_share 0 = .ok (.aload_n 2, 1)) rfl ?_
  refine g_iconst hF (by decide +kernel : decode cL_share 1 = .ok (.iconst 0, 1)) ?_
  refine g_aload_n hF (by decide +kernel : decode cL_share 2 = .ok (.aload_n 0, 1)) rfl ?_
  refine g_iload_n hF (by decide +kernel : decode cL_share 3 = .ok (.iload_n 1, 1)) rfl ?_
  refine g_callV hF lkL_160 (c_X4_share X hX s hs m hC hn) (by decide +kernel : decode cL_share 4 = .ok (.invokevirtual 160, 3)) (by decide) rfl rfl rfl rfl jok38 (Nat.le_of_ble_eq_true rfl) (fun v4 m4 h4 => ?_)
  obtain ⟨rfl, e4⟩ := h4
  refine g_f2d hF (by decide +kernel : decode cL_share 7 = .ok (.f2d, 1)) (f2d_n (shr_nan (by have := cnt_b (m s); omega))) ?_
  refine g_dastore hF (by decide +kernel : decode cL_share 8 = .ok (.dastore, 1)) ?_
  refine g_goto hF (tgt := 18) (by decide +kernel : decode cL_share 9 = .ok (.goto 9, 3)) (by decide) ?_
  refine g_iconst hF (by decide +kernel : decode cL_share 18 = .ok (.iconst 0, 1)) ?_
  refine g_ireturnL hF hQ (by decide +kernel : decode cL_share 19 = .ok (.ireturn, 1)) ?_
  exact ⟨rfl, m4, e4, rfl⟩
set_option maxHeartbeats 4000000 in
set_option maxRecDepth 100000 in
theorem lxa_share (X : jX) (hX : jxok X) (s : Int) (js : jr s) (m : jM) (h : ¬ ((0 ≤ s ∧ s < 8))) : ConL X yL_share cL_share 4 (some .int) [(0, 9, 12, 13), (0, 9, 15, 164)] 13 [vR 2 38, vI s, vR 2 60] m (fun o m' => o = some (vI 1) ∧ m' = m) := by
  refine ConL.of hX (by decide) (Nat.le_of_ble_eq_true rfl) (fun F hF hQ => ?_)
  refine g_aload_n hF (by decide +kernel : decode cL_share 0 = .ok (.aload_n 2, 1)) rfl ?_
  refine g_iconst hF (by decide +kernel : decode cL_share 1 = .ok (.iconst 0, 1)) ?_
  refine g_aload_n hF (by decide +kernel : decode cL_share 2 = .ok (.aload_n 0, 1)) rfl ?_
  refine g_iload_n hF (by decide +kernel : decode cL_share 3 = .ok (.iload_n 1, 1)) rfl ?_
  exact g_tryV hF hQ lkL_160 (xa_X4_share X hX s js m h) (by decide +kernel : decode cL_share 4 = .ok (.invokevirtual 160, 3)) (by decide) rfl rfl rfl rfl jok38 (Nat.le_of_ble_eq_true rfl) [] ⟨0, 9, 12, 13⟩ [⟨0, 9, 15, 164⟩] rfl (fun _ h => absurd h List.not_mem_nil) (by decide) (by decide) clL_13 cast_IndexOutOfBoundsException (i := 3) (la := 1) (Or.inl ⟨3, (by decide +kernel : decode cL_share 12 = .ok (.astore_n 3, 1)), rfl, rfl⟩) (by decide) (by decide +kernel : decode cL_share (12 + 1) = .ok (.iconst 1, 1)) (by decide +kernel : decode cL_share (12 + 1 + 1) = .ok (.ireturn, 1)) (fun m9 h9 => ⟨rfl, h9⟩)
set_option maxHeartbeats 4000000 in
set_option maxRecDepth 100000 in
theorem lxb_share (X : jX) (hX : jxok X) (s : Nat) (hs : s < 8) (m : jM) (hC : CI m) (h : cnt (m s) = 0) : ConL X yL_share cL_share 4 (some .int) [(0, 9, 12, 13), (0, 9, 15, 164)] 13 [vR 2 38, vI s, vR 2 60] m (fun o m' => o = some (vI 2) ∧ m' = m) := by
  refine ConL.of hX (by decide) (Nat.le_of_ble_eq_true rfl) (fun F hF hQ => ?_)
  refine g_aload_n hF (by decide +kernel : decode cL_share 0 = .ok (.aload_n 2, 1)) rfl ?_
  refine g_iconst hF (by decide +kernel : decode cL_share 1 = .ok (.iconst 0, 1)) ?_
  refine g_aload_n hF (by decide +kernel : decode cL_share 2 = .ok (.aload_n 0, 1)) rfl ?_
  refine g_iload_n hF (by decide +kernel : decode cL_share 3 = .ok (.iload_n 1, 1)) rfl ?_
  exact g_tryV hF hQ lkL_160 (xb_X4_share X hX s hs m hC h) (by decide +kernel : decode cL_share 4 = .ok (.invokevirtual 160, 3)) (by decide) rfl rfl rfl rfl jok38 (Nat.le_of_ble_eq_true rfl) [⟨0, 9, 12, 13⟩] ⟨0, 9, 15, 164⟩ [] rfl (List.forall_mem_cons.mpr ⟨⟨by decide, "java/lang/IndexOutOfBoundsException", clL_13, by decide +kernel⟩, (fun _ h => absurd h List.not_mem_nil)⟩) (by decide) (by decide) clL_164 cast_ArithmeticException (i := 3) (la := 1) (Or.inl ⟨3, (by decide +kernel : decode cL_share 15 = .ok (.astore_n 3, 1)), rfl, rfl⟩) (by decide) (by decide +kernel : decode cL_share (15 + 1) = .ok (.iconst 2, 1)) (by decide +kernel : decode cL_share (15 + 1 + 1) = .ok (.ireturn, 1)) (fun m9 h9 => ⟨rfl, h9⟩)

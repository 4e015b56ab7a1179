set_option maxHeartbeats 4000000 in
set_option maxRecDepth 100000 in
theorem c_X5_many (X : jX) (hX : jxok X) (s : Nat) (hs : s < 8) (m : jM) (hm : rowok (mR m s)) : Con X yX5_many cX5_many 4 (some .int) 1 [vR 2 51, vI s] m (fun o m' => o = some (vI (cnt (mR m s))) ∧ m' = m) := by
  refine Con.of hX (by decide) (Nat.le_of_ble_eq_true rfl) (fun F hF hQ => ?_)
  refine g_iconst hF (by decide +kernel : decode cX5_many 0 = .ok (.iconst 0, 1)) ?_
  refine g_istore_n hF (by decide +kernel : decode cX5_many 1 = .ok (.istore_n 2, 1)) (by decide) ?_
  refine g_iconst hF (by decide +kernel : decode cX5_many 2 = .ok (.iconst 0, 1)) ?_
  refine g_istore_n hF (by decide +kernel : decode cX5_many 3 = .ok (.istore_n 3, 1)) (by decide) ?_
  have loop : ∀ (n i : Nat) (a : Int), i ≤ 257 → 258 ≤ i + n → a = sumN (fun z => pres (mR m s z)) i → jG F X m 4 [(0, vR 2 51), (1, vI s), (2, vI a), (3, vI i)] [] := by
    intro n
    induction n with
    | zero => intro i a h1 h2; exact absurd h2 (by omega)
    | succ n ih =>
      intro i a h1 h2 hc0
      refine g_iload_n hF (by decide +kernel : decode cX5_many 4 = .ok (.iload_n 3, 1)) rfl ?_
      refine g_sipush hF (by decide +kernel : decode cX5_many 5 = .ok (.sipush 257, 3)) (by decide) ?_
      refine g_icmp_ge hF (tgt := 42) (by decide +kernel : decode cX5_many 8 = .ok (.if_icmp .ge 34, 3)) (by decide) (by omega) (by omega) (fun c8 => ?_) (fun c8 => ?_)
      · skip
        refine g_iload_n hF (by decide +kernel : decode cX5_many 42 = .ok (.iload_n 2, 1)) rfl ?_
        refine g_ireturn hF hQ (by decide +kernel : decode cX5_many 43 = .ok (.ireturn, 1)) ?_
        exact ⟨by rw [hc0, show i = 257 by omega]; rfl, rfl⟩
      · skip
        refine g_iload_n hF (by decide +kernel : decode cX5_many 11 = .ok (.iload_n 2, 1)) rfl ?_
        refine g_aload_n hF (by decide +kernel : decode cX5_many 12 = .ok (.aload_n 0, 1)) rfl ?_
        refine g_getC hF lkX5_7 (by decide +kernel : decode cX5_many 13 = .ok (.getfield 7, 3)) jok51 rfl rfl ?_
        refine g_sipush hF (by decide +kernel : decode cX5_many 16 = .ok (.sipush 257, 3)) (by decide) ?_
        refine g_iload_n hF (by decide +kernel : decode cX5_many 19 = .ok (.iload_n 1, 1)) rfl ?_
        refine g_imul hF (by decide +kernel : decode cX5_many 20 = .ok (.imul, 1)) ?_
        refine g_iload_n hF (by decide +kernel : decode cX5_many 21 = .ok (.iload_n 3, 1)) rfl ?_
        refine g_iadd hF (by decide +kernel : decode cX5_many 22 = .ok (.iadd, 1)) ?_
        refine g_ldC hF (n := 2056) (by decide +kernel : decode cX5_many 23 = .ok (.iaload, 1)) jrr52 rfl (by omega) ?_
        refine g_bipush hF (by decide +kernel : decode cX5_many 24 = .ok (.bipush (-2), 2)) (by decide) ?_
        have hb : -2 ≤ m 52 (257 * (s : Int) + i) ∧ m 52 (257 * (s : Int) + i) ≤ 255 := hm i (by omega) (by omega)
        refine g_icmp_le hF (tgt := 33) (by decide +kernel : decode cX5_many 26 = .ok (.if_icmp .le 7, 3)) (by decide) (by omega) (by omega) (fun c26 => ?_) (fun c26 => ?_)
        · skip
          refine g_iconst hF (by decide +kernel : decode cX5_many 33 = .ok (.iconst 0, 1)) ?_
          refine g_iadd hF (by decide +kernel : decode cX5_many 34 = .ok (.iadd, 1)) ?_
          refine g_istore_n hF (by decide +kernel : decode cX5_many 35 = .ok (.istore_n 2, 1)) (by decide) ?_
          refine g_iinc hF (by decide +kernel : decode cX5_many 36 = .ok (.iinc 3 1, 3)) rfl (by decide) ?_
          refine g_goto hF (tgt := 4) (by decide +kernel : decode cX5_many 39 = .ok (.goto (-35), 3)) (by decide) ?_
          exact ih (i + 1) _ (by omega) (by omega) (by rw [hc0, sumN_s, show pres (mR m s i) = 0 from if_pos (by show m 52 (257 * (s : Int) + i) = -2; omega)])
        · skip
          refine g_iconst hF (by decide +kernel : decode cX5_many 29 = .ok (.iconst 1, 1)) ?_
          refine g_goto hF (tgt := 34) (by decide +kernel : decode cX5_many 30 = .ok (.goto 4, 3)) (by decide) ?_
          refine g_iadd hF (by decide +kernel : decode cX5_many 34 = .ok (.iadd, 1)) ?_
          refine g_istore_n hF (by decide +kernel : decode cX5_many 35 = .ok (.istore_n 2, 1)) (by decide) ?_
          refine g_iinc hF (by decide +kernel : decode cX5_many 36 = .ok (.iinc 3 1, 3)) rfl (by decide) ?_
          refine g_goto hF (tgt := 4) (by decide +kernel : decode cX5_many 39 = .ok (.goto (-35), 3)) (by decide) ?_
          exact ih (i + 1) _ (by omega) (by omega) (by rw [hc0, sumN_s, show pres (mR m s i) = 1 from if_neg (by show m 52 (257 * (s : Int) + i) ≠ -2; omega)])
  exact loop 258 0 0 (by omega) (by omega) (sumN_0 _).symm
set_option maxHeartbeats 4000000 in
set_option maxRecDepth 100000 in
theorem c_X5_manyWith (X : jX) (hX : jxok X) (s : Nat) (hs : s < 8) (v : Int) (jv : jr v) (m : jM) (hm : rowok (mR m s)) : Con X yX5_manyWith cX5_manyWith 5 (some .int) 2 [vR 2 51, vI s, vI v] m (fun o m' => o = some (vI (mult (mR m s) v)) ∧ m' = m) := by
  refine Con.of hX (by decide) (Nat.le_of_ble_eq_true rfl) (fun F hF hQ => ?_)
  refine g_iconst hF (by decide +kernel : decode cX5_manyWith 0 = .ok (.iconst 0, 1)) ?_
  refine g_istore_n hF (by decide +kernel : decode cX5_manyWith 1 = .ok (.istore_n 3, 1)) (by decide) ?_
  refine g_iconst hF (by decide +kernel : decode cX5_manyWith 2 = .ok (.iconst (-1), 1)) ?_
  refine g_istore hF (by decide +kernel : decode cX5_manyWith 3 = .ok (.istore 4, 2)) (by decide) ?_
  have loop : ∀ (n i : Nat) (a k : Int), i ≤ 257 → 258 ≤ i + n → k = i - 1 → a = sumN (fun z => if mR m s z = v then 1 else 0) i → jG F X m 5 [(0, vR 2 51), (1, vI s), (2, vI v), (3, vI a), (4, vI k)] [] := by
    intro n
    induction n with
    | zero => intro i a k h1 h2; exact absurd h2 (by omega)
    | succ n ih =>
      intro i a k h1 h2 hc0 hc1
      refine g_iload hF (by decide +kernel : decode cX5_manyWith 5 = .ok (.iload 4, 2)) rfl ?_
      refine g_sipush hF (by decide +kernel : decode cX5_manyWith 7 = .ok (.sipush 256, 3)) (by decide) ?_
      refine g_icmp_ge hF (tgt := 38) (by decide +kernel : decode cX5_manyWith 10 = .ok (.if_icmp .ge 28, 3)) (by decide) (by omega) (by omega) (fun c10 => ?_) (fun c10 => ?_)
      · skip
        refine g_iload_n hF (by decide +kernel : decode cX5_manyWith 38 = .ok (.iload_n 3, 1)) rfl ?_
        refine g_ireturn hF hQ (by decide +kernel : decode cX5_manyWith 39 = .ok (.ireturn, 1)) ?_
        exact ⟨by rw [hc1, show i = 257 by omega]; rfl, rfl⟩
      · skip
        refine g_iload_n hF (by decide +kernel : decode cX5_manyWith 13 = .ok (.iload_n 3, 1)) rfl ?_
        refine g_aload_n hF (by decide +kernel : decode cX5_manyWith 14 = .ok (.aload_n 0, 1)) rfl ?_
        refine g_iload_n hF (by decide +kernel : decode cX5_manyWith 15 = .ok (.iload_n 1, 1)) rfl ?_
        refine g_iload hF (by decide +kernel : decode cX5_manyWith 16 = .ok (.iload 4, 2)) rfl ?_
        refine g_callV hF lkX5_60 (c_X5_at X hX _ (by omega) _ (show num _ from ⟨by omega, by omega⟩) _) (by decide +kernel : decode cX5_manyWith 18 = .ok (.invokevirtual 60, 3)) (by decide) rfl rfl rfl rfl jok51 (Nat.le_of_ble_eq_true rfl) (fun v18 m18 h18 => ?_)
        obtain ⟨rfl, e18⟩ := h18
        obtain rfl := e18.symm
        rw [show k + 1 = (i : Int) by omega]
        have hb := hm i (by omega) (by omega)
        refine g_iload_n hF (by decide +kernel : decode cX5_manyWith 21 = .ok (.iload_n 2, 1)) rfl ?_
        refine g_icmp_ne hF (tgt := 29) (by decide +kernel : decode cX5_manyWith 22 = .ok (.if_icmp .ne 7, 3)) (by decide) (by omega) (by omega) (fun c22 => ?_) (fun c22 => ?_)
        · skip
          refine g_iconst hF (by decide +kernel : decode cX5_manyWith 29 = .ok (.iconst 0, 1)) ?_
          refine g_iadd hF (by decide +kernel : decode cX5_manyWith 30 = .ok (.iadd, 1)) ?_
          refine g_istore_n hF (by decide +kernel : decode cX5_manyWith 31 = .ok (.istore_n 3, 1)) (by decide) ?_
          refine g_iinc hF (by decide +kernel : decode cX5_manyWith 32 = .ok (.iinc 4 1, 3)) rfl (by decide) ?_
          refine g_goto hF (tgt := 5) (by decide +kernel : decode cX5_manyWith 35 = .ok (.goto (-30), 3)) (by decide) ?_
          exact ih (i + 1) _ _ (by omega) (by omega) (by omega) (by rw [hc1, sumN_s, if_neg c22])
        · skip
          refine g_iconst hF (by decide +kernel : decode cX5_manyWith 25 = .ok (.iconst 1, 1)) ?_
          refine g_goto hF (tgt := 30) (by decide +kernel : decode cX5_manyWith 26 = .ok (.goto 4, 3)) (by decide) ?_
          refine g_iadd hF (by decide +kernel : decode cX5_manyWith 30 = .ok (.iadd, 1)) ?_
          refine g_istore_n hF (by decide +kernel : decode cX5_manyWith 31 = .ok (.istore_n 3, 1)) (by decide) ?_
          refine g_iinc hF (by decide +kernel : decode cX5_manyWith 32 = .ok (.iinc 4 1, 3)) rfl (by decide) ?_
          refine g_goto hF (tgt := 5) (by decide +kernel : decode cX5_manyWith 35 = .ok (.goto (-30), 3)) (by decide) ?_
          exact ih (i + 1) _ _ (by omega) (by omega) (by omega) (by rw [hc1, sumN_s, if_pos c22])
  exact loop 258 0 0 (-1) (by omega) (by omega) (by omega) (sumN_0 _).symm
set_option maxHeartbeats 4000000 in
set_option maxRecDepth 100000 in
theorem c_X5_isTwice (X : jX) (hX : jxok X) (s : Nat) (hs : s < 8) (m : jM) (hm : rowok (mR m s)) : Con X yX5_isTwice cX5_isTwice 4 (some .boolean) 3 [vR 2 51, vI s] m (fun o m' => o = some (vI (bI (¬ once (mR m s)))) ∧ m' = m) := by
  refine Con.of hX (by decide) (Nat.le_of_ble_eq_true rfl) (fun F hF hQ => ?_)
  refine g_iconst hF (by decide +kernel : decode cX5_isTwice 0 = .ok (.iconst 0, 1)) ?_
  refine g_istore_n hF (by decide +kernel : decode cX5_isTwice 1 = .ok (.istore_n 2, 1)) (by decide) ?_
  refine g_iconst hF (by decide +kernel : decode cX5_isTwice 2 = .ok (.iconst (-1), 1)) ?_
  refine g_istore_n hF (by decide +kernel : decode cX5_isTwice 3 = .ok (.istore_n 3, 1)) (by decide) ?_
  have loop : ∀ (n i : Nat) (a k : Int), i ≤ 257 → 258 ≤ i + n → k = i - 1 → a = bI (∃ z : Int, 0 ≤ z ∧ z < i ∧ 1 < mult (mR m s) (z - 1)) → jG F X m 4 [(0, vR 2 51), (1, vI s), (2, vI a), (3, vI k)] [] := by
    intro n
    induction n with
    | zero => intro i a k h1 h2; exact absurd h2 (by omega)
    | succ n ih =>
      intro i a k h1 h2 hc0 hc1
      refine g_iload_n hF (by decide +kernel : decode cX5_isTwice 4 = .ok (.iload_n 3, 1)) rfl ?_
      refine g_sipush hF (by decide +kernel : decode cX5_isTwice 5 = .ok (.sipush 256, 3)) (by decide) ?_
      refine g_icmp_ge hF (tgt := 35) (by decide +kernel : decode cX5_isTwice 8 = .ok (.if_icmp .ge 27, 3)) (by decide) (by omega) (by omega) (fun c8 => ?_) (fun c8 => ?_)
      · skip
        refine g_iload_n hF (by decide +kernel : decode cX5_isTwice 35 = .ok (.iload_n 2, 1)) rfl ?_
        rw [hc1, show bI (∃ z : Int, 0 ≤ z ∧ z < i ∧ 1 < mult (mR m s) (z - 1)) = bI (¬ once (mR m s)) from bI_iff ⟨fun ⟨z, a, b, c⟩ q => absurd (q z a (by omega)) (by omega), fun q => Classical.byContradiction (fun x => q (fun z a b => Classical.byContradiction (fun y => x ⟨z, a, by omega, by omega⟩)))⟩]
        refine g_zreturn hF hQ (by decide +kernel : decode cX5_isTwice 36 = .ok (.ireturn, 1)) (bI_c _) ?_
        exact ⟨rfl, rfl⟩
      · skip
        refine g_iload_n hF (by decide +kernel : decode cX5_isTwice 11 = .ok (.iload_n 2, 1)) rfl ?_
        refine g_aload_n hF (by decide +kernel : decode cX5_isTwice 12 = .ok (.aload_n 0, 1)) rfl ?_
        refine g_iload_n hF (by decide +kernel : decode cX5_isTwice 13 = .ok (.iload_n 1, 1)) rfl ?_
        refine g_iload_n hF (by decide +kernel : decode cX5_isTwice 14 = .ok (.iload_n 3, 1)) rfl ?_
        refine g_callV hF lkX5_72 (c_X5_manyWith X hX _ (by omega) _ (by omega) _ (by assumption)) (by decide +kernel : decode cX5_isTwice 15 = .ok (.invokevirtual 72, 3)) (by decide) rfl rfl rfl rfl jok51 (Nat.le_of_ble_eq_true rfl) (fun v15 m15 h15 => ?_)
        obtain ⟨rfl, e15⟩ := h15
        obtain rfl := e15.symm
        have hb := mult_b (mR m s) k 257
        have hb2 : 0 ≤ mult (mR m s) k ∧ mult (mR m s) k ≤ 257 := hb
        refine g_iconst hF (by decide +kernel : decode cX5_isTwice 18 = .ok (.iconst 1, 1)) ?_
        refine g_icmp_le hF (tgt := 26) (by decide +kernel : decode cX5_isTwice 19 = .ok (.if_icmp .le 7, 3)) (by decide) (by omega) (by omega) (fun c19 => ?_) (fun c19 => ?_)
        · skip
          refine g_iconst hF (by decide +kernel : decode cX5_isTwice 26 = .ok (.iconst 0, 1)) ?_
          refine g_ior hF (by decide +kernel : decode cX5_isTwice 27 = .ok (.ior, 1)) ?_
          refine g_istore_n hF (by decide +kernel : decode cX5_isTwice 28 = .ok (.istore_n 2, 1)) (by decide) ?_
          refine g_iinc hF (by decide +kernel : decode cX5_isTwice 29 = .ok (.iinc 3 1, 3)) rfl (by decide) ?_
          refine g_goto hF (tgt := 4) (by decide +kernel : decode cX5_isTwice 32 = .ok (.goto (-28), 3)) (by decide) ?_
          exact ih (i + 1) _ _ (by omega) (by omega) (by omega) (by rw [hc1, or0]; exact bI_iff ⟨fun ⟨z, a, b, c⟩ => ⟨z, a, by omega, c⟩, fun ⟨z, a, b, c⟩ => ⟨z, a, by rcases Int.lt_or_le z i with q | q; { exact q }; { exfalso; rw [show z = (i : Int) by omega, show (i : Int) - 1 = k by omega] at c; omega }, c⟩⟩)
        · skip
          refine g_iconst hF (by decide +kernel : decode cX5_isTwice 22 = .ok (.iconst 1, 1)) ?_
          refine g_goto hF (tgt := 27) (by decide +kernel : decode cX5_isTwice 23 = .ok (.goto 4, 3)) (by decide) ?_
          refine g_ior hF (by decide +kernel : decode cX5_isTwice 27 = .ok (.ior, 1)) ?_
          refine g_istore_n hF (by decide +kernel : decode cX5_isTwice 28 = .ok (.istore_n 2, 1)) (by decide) ?_
          refine g_iinc hF (by decide +kernel : decode cX5_isTwice 29 = .ok (.iinc 3 1, 3)) rfl (by decide) ?_
          refine g_goto hF (tgt := 4) (by decide +kernel : decode cX5_isTwice 32 = .ok (.goto (-28), 3)) (by decide) ?_
          exact ih (i + 1) _ _ (by omega) (by omega) (by omega) (by rw [hc1, or1]; exact (bI_t ⟨i, by omega, by omega, by rw [show (i : Int) - 1 = k by omega]; omega⟩).symm)
  exact loop 258 0 0 (-1) (by omega) (by omega) (by omega) (bI_f (fun ⟨z, a, b, c⟩ => absurd b (by omega))).symm
set_option maxHeartbeats 4000000 in
set_option maxRecDepth 100000 in
theorem c_X5_isIntoItself (X : jX) (hX : jxok X) (s : Nat) (hs : s < 8) (m : jM) (hm : rowok (mR m s)) : Con X yX5_isIntoItself cX5_isIntoItself 4 (some .boolean) 3 [vR 2 51, vI s] m (fun o m' => o = some (vI (bI (inside (mR m s)))) ∧ m' = m) := by
  refine Con.of hX (by decide) (Nat.le_of_ble_eq_true rfl) (fun F hF hQ => ?_)
  refine g_iconst hF (by decide +kernel : decode cX5_isIntoItself 0 = .ok (.iconst 1, 1)) ?_
  refine g_istore_n hF (by decide +kernel : decode cX5_isIntoItself 1 = .ok (.istore_n 2, 1)) (by decide) ?_
  refine g_iconst hF (by decide +kernel : decode cX5_isIntoItself 2 = .ok (.iconst (-1), 1)) ?_
  refine g_istore_n hF (by decide +kernel : decode cX5_isIntoItself 3 = .ok (.istore_n 3, 1)) (by decide) ?_
  have loop : ∀ (n i : Nat) (a k : Int), i ≤ 257 → 258 ≤ i + n → k = i - 1 → a = bI (∀ z : Int, 0 ≤ z → z < i → (mR m s z = -2 ∨ tat (mR m s) (mR m s z) ≠ -2)) → jG F X m 4 [(0, vR 2 51), (1, vI s), (2, vI a), (3, vI k)] [] := by
    intro n
    induction n with
    | zero => intro i a k h1 h2; exact absurd h2 (by omega)
    | succ n ih =>
      intro i a k h1 h2 hc0 hc1
      refine g_iload_n hF (by decide +kernel : decode cX5_isIntoItself 4 = .ok (.iload_n 3, 1)) rfl ?_
      refine g_sipush hF (by decide +kernel : decode cX5_isIntoItself 5 = .ok (.sipush 256, 3)) (by decide) ?_
      refine g_icmp_ge hF (tgt := 52) (by decide +kernel : decode cX5_isIntoItself 8 = .ok (.if_icmp .ge 44, 3)) (by decide) (by omega) (by omega) (fun c8 => ?_) (fun c8 => ?_)
      · skip
        refine g_iload_n hF (by decide +kernel : decode cX5_isIntoItself 52 = .ok (.iload_n 2, 1)) rfl ?_
        rw [hc1, show bI (∀ z : Int, 0 ≤ z → z < i → (mR m s z = -2 ∨ tat (mR m s) (mR m s z) ≠ -2)) = bI (inside (mR m s)) from bI_iff ⟨fun q z a b => q z a (by omega), fun q z a b => q z a (by omega)⟩]
        refine g_zreturn hF hQ (by decide +kernel : decode cX5_isIntoItself 53 = .ok (.ireturn, 1)) (bI_c _) ?_
        exact ⟨rfl, rfl⟩
      · skip
        refine g_iload_n hF (by decide +kernel : decode cX5_isIntoItself 11 = .ok (.iload_n 2, 1)) rfl ?_
        refine g_aload_n hF (by decide +kernel : decode cX5_isIntoItself 12 = .ok (.aload_n 0, 1)) rfl ?_
        refine g_iload_n hF (by decide +kernel : decode cX5_isIntoItself 13 = .ok (.iload_n 1, 1)) rfl ?_
        refine g_iload_n hF (by decide +kernel : decode cX5_isIntoItself 14 = .ok (.iload_n 3, 1)) rfl ?_
        refine g_callV hF lkX5_60 (c_X5_at X hX _ (by omega) _ (show num _ from ⟨by omega, by omega⟩) _) (by decide +kernel : decode cX5_isIntoItself 15 = .ok (.invokevirtual 60, 3)) (by decide) rfl rfl rfl rfl jok51 (Nat.le_of_ble_eq_true rfl) (fun v15 m15 h15 => ?_)
        obtain ⟨rfl, e15⟩ := h15
        obtain rfl := e15.symm
        rw [show k + 1 = (i : Int) by omega]
        have hb := hm i (by omega) (by omega)
        refine g_bipush hF (by decide +kernel : decode cX5_isIntoItself 18 = .ok (.bipush (-2), 2)) (by decide) ?_
        refine g_icmp_eq hF (tgt := 39) (by decide +kernel : decode cX5_isIntoItself 20 = .ok (.if_icmp .eq 19, 3)) (by decide) (by omega) (by omega) (fun c20 => ?_) (fun c20 => ?_)
        · skip
          refine g_iconst hF (by decide +kernel : decode cX5_isIntoItself 39 = .ok (.iconst 1, 1)) ?_
          refine g_goto hF (tgt := 44) (by decide +kernel : decode cX5_isIntoItself 40 = .ok (.goto 4, 3)) (by decide) ?_
          refine g_iand hF (by decide +kernel : decode cX5_isIntoItself 44 = .ok (.iand, 1)) ?_
          refine g_istore_n hF (by decide +kernel : decode cX5_isIntoItself 45 = .ok (.istore_n 2, 1)) (by decide) ?_
          refine g_iinc hF (by decide +kernel : decode cX5_isIntoItself 46 = .ok (.iinc 3 1, 3)) rfl (by decide) ?_
          refine g_goto hF (tgt := 4) (by decide +kernel : decode cX5_isIntoItself 49 = .ok (.goto (-45), 3)) (by decide) ?_
          have good : mR m s i = -2 ∨ tat (mR m s) (mR m s i) ≠ -2 := Or.inl c20
          exact ih (i + 1) _ _ (by omega) (by omega) (by omega) (by rw [hc1, and1]; exact bI_iff ⟨fun q z a b => by rcases Int.lt_or_le z i with y | y; { exact q z a y }; { rw [show z = (i : Int) by omega]; exact good }, fun q z a b => q z a (by omega)⟩)
        · skip
          refine g_aload_n hF (by decide +kernel : decode cX5_isIntoItself 23 = .ok (.aload_n 0, 1)) rfl ?_
          refine g_iload_n hF (by decide +kernel : decode cX5_isIntoItself 24 = .ok (.iload_n 1, 1)) rfl ?_
          refine g_aload_n hF (by decide +kernel : decode cX5_isIntoItself 25 = .ok (.aload_n 0, 1)) rfl ?_
          refine g_iload_n hF (by decide +kernel : decode cX5_isIntoItself 26 = .ok (.iload_n 1, 1)) rfl ?_
          refine g_iload_n hF (by decide +kernel : decode cX5_isIntoItself 27 = .ok (.iload_n 3, 1)) rfl ?_
          refine g_callV hF lkX5_60 (c_X5_at X hX _ (by omega) _ (show num _ from ⟨by omega, by omega⟩) _) (by decide +kernel : decode cX5_isIntoItself 28 = .ok (.invokevirtual 60, 3)) (by decide) rfl rfl rfl rfl jok51 (Nat.le_of_ble_eq_true rfl) (fun v28 m28 h28 => ?_)
          obtain ⟨rfl, e28⟩ := h28
          obtain rfl := e28.symm
          rw [show k + 1 = (i : Int) by omega]
          refine g_callV hF lkX5_60 (c_X5_at X hX _ (by omega) _ (show num _ from ⟨by omega, by omega⟩) _) (by decide +kernel : decode cX5_isIntoItself 31 = .ok (.invokevirtual 60, 3)) (by decide) rfl rfl rfl rfl jok51 (Nat.le_of_ble_eq_true rfl) (fun v31 m31 h31 => ?_)
          obtain ⟨rfl, e31⟩ := h31
          obtain rfl := e31.symm
          have hb2 := hm (mR m s i + 1) (by omega) (by omega)
          refine g_bipush hF (by decide +kernel : decode cX5_isIntoItself 34 = .ok (.bipush (-2), 2)) (by decide) ?_
          refine g_icmp_le hF (tgt := 43) (by decide +kernel : decode cX5_isIntoItself 36 = .ok (.if_icmp .le 7, 3)) (by decide) (by omega) (by omega) (fun c36 => ?_) (fun c36 => ?_)
          · skip
            refine g_iconst hF (by decide +kernel : decode cX5_isIntoItself 43 = .ok (.iconst 0, 1)) ?_
            refine g_iand hF (by decide +kernel : decode cX5_isIntoItself 44 = .ok (.iand, 1)) ?_
            refine g_istore_n hF (by decide +kernel : decode cX5_isIntoItself 45 = .ok (.istore_n 2, 1)) (by decide) ?_
            refine g_iinc hF (by decide +kernel : decode cX5_isIntoItself 46 = .ok (.iinc 3 1, 3)) rfl (by decide) ?_
            refine g_goto hF (tgt := 4) (by decide +kernel : decode cX5_isIntoItself 49 = .ok (.goto (-45), 3)) (by decide) ?_
            exact ih (i + 1) _ _ (by omega) (by omega) (by omega) (by rw [hc1, and0]; exact (bI_f (fun q => by have := q i (by omega) (by omega); rw [tat_in ⟨by omega, by omega⟩] at this; have hb3 := hm (mR m s i + 1) (by omega) (by omega); omega)).symm)
          · skip
            refine g_iconst hF (by decide +kernel : decode cX5_isIntoItself 39 = .ok (.iconst 1, 1)) ?_
            refine g_goto hF (tgt := 44) (by decide +kernel : decode cX5_isIntoItself 40 = .ok (.goto 4, 3)) (by decide) ?_
            refine g_iand hF (by decide +kernel : decode cX5_isIntoItself 44 = .ok (.iand, 1)) ?_
            refine g_istore_n hF (by decide +kernel : decode cX5_isIntoItself 45 = .ok (.istore_n 2, 1)) (by decide) ?_
            refine g_iinc hF (by decide +kernel : decode cX5_isIntoItself 46 = .ok (.iinc 3 1, 3)) rfl (by decide) ?_
            refine g_goto hF (tgt := 4) (by decide +kernel : decode cX5_isIntoItself 49 = .ok (.goto (-45), 3)) (by decide) ?_
            have good : mR m s i = -2 ∨ tat (mR m s) (mR m s i) ≠ -2 := Or.inr (by rw [tat_in ⟨by omega, by omega⟩]; omega)
            exact ih (i + 1) _ _ (by omega) (by omega) (by omega) (by rw [hc1, and1]; exact bI_iff ⟨fun q z a b => by rcases Int.lt_or_le z i with y | y; { exact q z a y }; { rw [show z = (i : Int) by omega]; exact good }, fun q z a b => q z a (by omega)⟩)
  exact loop 258 0 1 (-1) (by omega) (by omega) (by omega) (bI_t (fun z a b => absurd b (by omega))).symm
set_option maxHeartbeats 4000000 in
set_option maxRecDepth 100000 in
theorem c_X5_manyFixed (X : jX) (hX : jxok X) (s : Nat) (hs : s < 8) (m : jM) (hm : rowok (mR m s)) : Con X yX5_manyFixed cX5_manyFixed 4 (some .int) 2 [vR 2 51, vI s] m (fun o m' => o = some (vI (selfN (mR m s))) ∧ m' = m) := by
  refine Con.of hX (by decide) (Nat.le_of_ble_eq_true rfl) (fun F hF hQ => ?_)
  refine g_iconst hF (by decide +kernel : decode cX5_manyFixed 0 = .ok (.iconst 0, 1)) ?_
  refine g_istore_n hF (by decide +kernel : decode cX5_manyFixed 1 = .ok (.istore_n 2, 1)) (by decide) ?_
  refine g_iconst hF (by decide +kernel : decode cX5_manyFixed 2 = .ok (.iconst (-1), 1)) ?_
  refine g_istore_n hF (by decide +kernel : decode cX5_manyFixed 3 = .ok (.istore_n 3, 1)) (by decide) ?_
  have loop : ∀ (n i : Nat) (a k : Int), i ≤ 257 → 258 ≤ i + n → k = i - 1 → a = sumN (fun z => if mR m s z = z - 1 then 1 else 0) i → jG F X m 4 [(0, vR 2 51), (1, vI s), (2, vI a), (3, vI k)] [] := by
    intro n
    induction n with
    | zero => intro i a k h1 h2; exact absurd h2 (by omega)
    | succ n ih =>
      intro i a k h1 h2 hc0 hc1
      refine g_iload_n hF (by decide +kernel : decode cX5_manyFixed 4 = .ok (.iload_n 3, 1)) rfl ?_
      refine g_sipush hF (by decide +kernel : decode cX5_manyFixed 5 = .ok (.sipush 256, 3)) (by decide) ?_
      refine g_icmp_ge hF (tgt := 35) (by decide +kernel : decode cX5_manyFixed 8 = .ok (.if_icmp .ge 27, 3)) (by decide) (by omega) (by omega) (fun c8 => ?_) (fun c8 => ?_)
      · skip
        refine g_iload_n hF (by decide +kernel : decode cX5_manyFixed 35 = .ok (.iload_n 2, 1)) rfl ?_
        refine g_ireturn hF hQ (by decide +kernel : decode cX5_manyFixed 36 = .ok (.ireturn, 1)) ?_
        exact ⟨by rw [hc1, show i = 257 by omega]; rfl, rfl⟩
      · skip
        refine g_iload_n hF (by decide +kernel : decode cX5_manyFixed 11 = .ok (.iload_n 2, 1)) rfl ?_
        refine g_aload_n hF (by decide +kernel : decode cX5_manyFixed 12 = .ok (.aload_n 0, 1)) rfl ?_
        refine g_iload_n hF (by decide +kernel : decode cX5_manyFixed 13 = .ok (.iload_n 1, 1)) rfl ?_
        refine g_iload_n hF (by decide +kernel : decode cX5_manyFixed 14 = .ok (.iload_n 3, 1)) rfl ?_
        refine g_callV hF lkX5_60 (c_X5_at X hX _ (by omega) _ (show num _ from ⟨by omega, by omega⟩) _) (by decide +kernel : decode cX5_manyFixed 15 = .ok (.invokevirtual 60, 3)) (by decide) rfl rfl rfl rfl jok51 (Nat.le_of_ble_eq_true rfl) (fun v15 m15 h15 => ?_)
        obtain ⟨rfl, e15⟩ := h15
        obtain rfl := e15.symm
        rw [show k + 1 = (i : Int) by omega]
        have hb := hm i (by omega) (by omega)
        refine g_iload_n hF (by decide +kernel : decode cX5_manyFixed 18 = .ok (.iload_n 3, 1)) rfl ?_
        refine g_icmp_ne hF (tgt := 26) (by decide +kernel : decode cX5_manyFixed 19 = .ok (.if_icmp .ne 7, 3)) (by decide) (by omega) (by omega) (fun c19 => ?_) (fun c19 => ?_)
        · skip
          refine g_iconst hF (by decide +kernel : decode cX5_manyFixed 26 = .ok (.iconst 0, 1)) ?_
          refine g_iadd hF (by decide +kernel : decode cX5_manyFixed 27 = .ok (.iadd, 1)) ?_
          refine g_istore_n hF (by decide +kernel : decode cX5_manyFixed 28 = .ok (.istore_n 2, 1)) (by decide) ?_
          refine g_iinc hF (by decide +kernel : decode cX5_manyFixed 29 = .ok (.iinc 3 1, 3)) rfl (by decide) ?_
          refine g_goto hF (tgt := 4) (by decide +kernel : decode cX5_manyFixed 32 = .ok (.goto (-28), 3)) (by decide) ?_
          exact ih (i + 1) _ _ (by omega) (by omega) (by omega) (by rw [hc1, sumN_s, if_neg (by omega)])
        · skip
          refine g_iconst hF (by decide +kernel : decode cX5_manyFixed 22 = .ok (.iconst 1, 1)) ?_
          refine g_goto hF (tgt := 27) (by decide +kernel : decode cX5_manyFixed 23 = .ok (.goto 4, 3)) (by decide) ?_
          refine g_iadd hF (by decide +kernel : decode cX5_manyFixed 27 = .ok (.iadd, 1)) ?_
          refine g_istore_n hF (by decide +kernel : decode cX5_manyFixed 28 = .ok (.istore_n 2, 1)) (by decide) ?_
          refine g_iinc hF (by decide +kernel : decode cX5_manyFixed 29 = .ok (.iinc 3 1, 3)) rfl (by decide) ?_
          refine g_goto hF (tgt := 4) (by decide +kernel : decode cX5_manyFixed 32 = .ok (.goto (-28), 3)) (by decide) ?_
          exact ih (i + 1) _ _ (by omega) (by omega) (by omega) (by rw [hc1, sumN_s, if_pos (by omega)])
  exact loop 258 0 0 (-1) (by omega) (by omega) (by omega) (sumN_0 _).symm
set_option maxHeartbeats 4000000 in
set_option maxRecDepth 100000 in
theorem y_X5_noKey (X : jX) (hX : jxok X) (s : Nat) (hs : s < 8) (k : Int) (hk : num k) (m : jM) (hm : rowok (mR m s)) (h : ¬ tat (mR m s) k = -2) : Con X yX5_noKey cX5_noKey 3 (some .int) 4 [vR 2 51, vI s, vI k] m (fun o m' => o = some (vI 0) ∧ m' = m) := by
  refine Con.of hX (by decide) (Nat.le_of_ble_eq_true rfl) (fun F hF hQ => ?_)
  have hk2 : -1 ≤ k ∧ k ≤ 255 := hk
  have hb := hm (k + 1) (by omega) (by omega)
  rw [tat_in hk2] at h
  refine g_aload_n hF (by decide +kernel : decode cX5_noKey 0 = .ok (.aload_n 0, 1)) rfl ?_
  refine g_iload_n hF (by decide +kernel : decode cX5_noKey 1 = .ok (.iload_n 1, 1)) rfl ?_
  refine g_iload_n hF (by decide +kernel : decode cX5_noKey 2 = .ok (.iload_n 2, 1)) rfl ?_
  refine g_iconst hF (by decide +kernel : decode cX5_noKey 3 = .ok (.iconst 0, 1)) ?_
  refine g_iconst hF (by decide +kernel : decode cX5_noKey 4 = .ok (.iconst 0, 1)) ?_
  refine g_callV hF lkX5_49 (y_X5_no X hX _ (by omega) _ _ _ (by omega) (by omega) (by omega) (by unfold num; omega) _) (by decide +kernel : decode cX5_noKey 5 = .ok (.invokevirtual 49, 3)) (by decide) rfl rfl rfl rfl jok51 (Nat.le_of_ble_eq_true rfl) (fun v5 m5 h5 => ?_)
  obtain ⟨rfl, e5⟩ := h5
  obtain rfl := e5.symm
  refine g_if_le hF (tgt := 22) (by decide +kernel : decode cX5_noKey 8 = .ok (.ifCond .le 14, 3)) (by decide) (by omega) (fun c8 => ?_) (fun c8 => ?_)
  · skip
    refine g_aload_n hF (by decide +kernel : decode cX5_noKey 22 = .ok (.aload_n 0, 1)) rfl ?_
    refine g_iload_n hF (by decide +kernel : decode cX5_noKey 23 = .ok (.iload_n 1, 1)) rfl ?_
    refine g_iload_n hF (by decide +kernel : decode cX5_noKey 24 = .ok (.iload_n 2, 1)) rfl ?_
    refine g_callV hF lkX5_60 (c_X5_at X hX _ (by omega) _ (show num _ from ⟨by omega, by omega⟩) _) (by decide +kernel : decode cX5_noKey 25 = .ok (.invokevirtual 60, 3)) (by decide) rfl rfl rfl rfl jok51 (Nat.le_of_ble_eq_true rfl) (fun v25 m25 h25 => ?_)
    obtain ⟨rfl, e25⟩ := h25
    obtain rfl := e25.symm
    refine g_bipush hF (by decide +kernel : decode cX5_noKey 28 = .ok (.bipush (-2), 2)) (by decide) ?_
    refine g_icmp_ne hF (tgt := 37) (by decide +kernel : decode cX5_noKey 30 = .ok (.if_icmp .ne 7, 3)) (by decide) (by omega) (by omega) (fun c30 => ?_) (fun c30 => ?_)
    · skip
      refine g_iconst hF (by decide +kernel : decode cX5_noKey 37 = .ok (.iconst 0, 1)) ?_
      refine g_ireturn hF hQ (by decide +kernel : decode cX5_noKey 38 = .ok (.ireturn, 1)) ?_
      exact ⟨rfl, rfl⟩
    · skip
      exact absurd c30 h
  · skip
    exact absurd c8 (by decide)
set_option maxHeartbeats 4000000 in
set_option maxRecDepth 100000 in
theorem n3_X5_noKey (X : jX) (hX : jxok X) (s : Nat) (hs : s < 8) (k : Int) (hk : num k) (m : jM) (hm : rowok (mR m s)) (h : tat (mR m s) k = -2) : Con X yX5_noKey cX5_noKey 3 (some .int) 4 [vR 2 51, vI s, vI k] m (fun o m' => o = some (vI 3) ∧ m' = m) := by
  refine Con.of hX (by decide) (Nat.le_of_ble_eq_true rfl) (fun F hF hQ => ?_)
  have hk2 : -1 ≤ k ∧ k ≤ 255 := hk
  have hb := hm (k + 1) (by omega) (by omega)
  rw [tat_in hk2] at h
  refine g_aload_n hF (by decide +kernel : decode cX5_noKey 0 = .ok (.aload_n 0, 1)) rfl ?_
  refine g_iload_n hF (by decide +kernel : decode cX5_noKey 1 = .ok (.iload_n 1, 1)) rfl ?_
  refine g_iload_n hF (by decide +kernel : decode cX5_noKey 2 = .ok (.iload_n 2, 1)) rfl ?_
  refine g_iconst hF (by decide +kernel : decode cX5_noKey 3 = .ok (.iconst 0, 1)) ?_
  refine g_iconst hF (by decide +kernel : decode cX5_noKey 4 = .ok (.iconst 0, 1)) ?_
  refine g_callV hF lkX5_49 (y_X5_no X hX _ (by omega) _ _ _ (by omega) (by omega) (by omega) (by unfold num; omega) _) (by decide +kernel : decode cX5_noKey 5 = .ok (.invokevirtual 49, 3)) (by decide) rfl rfl rfl rfl jok51 (Nat.le_of_ble_eq_true rfl) (fun v5 m5 h5 => ?_)
  obtain ⟨rfl, e5⟩ := h5
  obtain rfl := e5.symm
  refine g_if_le hF (tgt := 22) (by decide +kernel : decode cX5_noKey 8 = .ok (.ifCond .le 14, 3)) (by decide) (by omega) (fun c8 => ?_) (fun c8 => ?_)
  · skip
    refine g_aload_n hF (by decide +kernel : decode cX5_noKey 22 = .ok (.aload_n 0, 1)) rfl ?_
    refine g_iload_n hF (by decide +kernel : decode cX5_noKey 23 = .ok (.iload_n 1, 1)) rfl ?_
    refine g_iload_n hF (by decide +kernel : decode cX5_noKey 24 = .ok (.iload_n 2, 1)) rfl ?_
    refine g_callV hF lkX5_60 (c_X5_at X hX _ (by omega) _ (show num _ from ⟨by omega, by omega⟩) _) (by decide +kernel : decode cX5_noKey 25 = .ok (.invokevirtual 60, 3)) (by decide) rfl rfl rfl rfl jok51 (Nat.le_of_ble_eq_true rfl) (fun v25 m25 h25 => ?_)
    obtain ⟨rfl, e25⟩ := h25
    obtain rfl := e25.symm
    refine g_bipush hF (by decide +kernel : decode cX5_noKey 28 = .ok (.bipush (-2), 2)) (by decide) ?_
    refine g_icmp_ne hF (tgt := 37) (by decide +kernel : decode cX5_noKey 30 = .ok (.if_icmp .ne 7, 3)) (by decide) (by omega) (by omega) (fun c30 => ?_) (fun c30 => ?_)
    · skip
      exact absurd h c30
    · skip
      refine g_iconst hF (by decide +kernel : decode cX5_noKey 33 = .ok (.iconst 3, 1)) ?_
      refine g_goto hF (tgt := 38) (by decide +kernel : decode cX5_noKey 34 = .ok (.goto 4, 3)) (by decide) ?_
      refine g_ireturn hF hQ (by decide +kernel : decode cX5_noKey 38 = .ok (.ireturn, 1)) ?_
      exact ⟨rfl, rfl⟩
  · skip
    exact absurd c8 (by decide)
set_option maxHeartbeats 4000000 in
set_option maxRecDepth 100000 in
theorem n1_X5_noKey (X : jX) (hX : jxok X) (s : Int) (js : jr s) (h : ¬ (0 ≤ s ∧ s < 8)) (k : Int) (m : jM) : Con X yX5_noKey cX5_noKey 3 (some .int) 4 [vR 2 51, vI s, vI k] m (fun o m' => o = some (vI 1) ∧ m' = m) := by
  refine Con.of hX (by decide) (Nat.le_of_ble_eq_true rfl) (fun F hF hQ => ?_)
  refine g_aload_n hF (by decide +kernel : decode cX5_noKey 0 = .ok (.aload_n 0, 1)) rfl ?_
  refine g_iload_n hF (by decide +kernel : decode cX5_noKey 1 = .ok (.iload_n 1, 1)) rfl ?_
  refine g_iload_n hF (by decide +kernel : decode cX5_noKey 2 = .ok (.iload_n 2, 1)) rfl ?_
  refine g_iconst hF (by decide +kernel : decode cX5_noKey 3 = .ok (.iconst 0, 1)) ?_
  refine g_iconst hF (by decide +kernel : decode cX5_noKey 4 = .ok (.iconst 0, 1)) ?_
  refine g_callV hF lkX5_49 (n1_X5_no X hX _ (by omega) (by omega) _ _ _ _) (by decide +kernel : decode cX5_noKey 5 = .ok (.invokevirtual 49, 3)) (by decide) rfl rfl rfl rfl jok51 (Nat.le_of_ble_eq_true rfl) (fun v5 m5 h5 => ?_)
  obtain ⟨rfl, e5⟩ := h5
  obtain rfl := e5.symm
  refine g_if_le hF (tgt := 22) (by decide +kernel : decode cX5_noKey 8 = .ok (.ifCond .le 14, 3)) (by decide) (by omega) (fun c8 => ?_) (fun c8 => ?_)
  · skip
    exact absurd c8 (by decide)
  · skip
    refine g_aload_n hF (by decide +kernel : decode cX5_noKey 11 = .ok (.aload_n 0, 1)) rfl ?_
    refine g_iload_n hF (by decide +kernel : decode cX5_noKey 12 = .ok (.iload_n 1, 1)) rfl ?_
    refine g_iload_n hF (by decide +kernel : decode cX5_noKey 13 = .ok (.iload_n 2, 1)) rfl ?_
    refine g_iconst hF (by decide +kernel : decode cX5_noKey 14 = .ok (.iconst 0, 1)) ?_
    refine g_iconst hF (by decide +kernel : decode cX5_noKey 15 = .ok (.iconst 0, 1)) ?_
    refine g_callV hF lkX5_49 (n1_X5_no X hX _ (by omega) (by omega) _ _ _ _) (by decide +kernel : decode cX5_noKey 16 = .ok (.invokevirtual 49, 3)) (by decide) rfl rfl rfl rfl jok51 (Nat.le_of_ble_eq_true rfl) (fun v16 m16 h16 => ?_)
    obtain ⟨rfl, e16⟩ := h16
    obtain rfl := e16.symm
    refine g_goto hF (tgt := 38) (by decide +kernel : decode cX5_noKey 19 = .ok (.goto 19, 3)) (by decide) ?_
    refine g_ireturn hF hQ (by decide +kernel : decode cX5_noKey 38 = .ok (.ireturn, 1)) ?_
    exact ⟨rfl, rfl⟩
set_option maxHeartbeats 4000000 in
set_option maxRecDepth 100000 in
theorem n2_X5_noKey (X : jX) (hX : jxok X) (s : Nat) (hs : s < 8) (k : Int) (jk : jr k) (h : ¬ num k) (m : jM) : Con X yX5_noKey cX5_noKey 3 (some .int) 4 [vR 2 51, vI s, vI k] m (fun o m' => o = some (vI 2) ∧ m' = m) := by
  refine Con.of hX (by decide) (Nat.le_of_ble_eq_true rfl) (fun F hF hQ => ?_)
  unfold num at h
  refine g_aload_n hF (by decide +kernel : decode cX5_noKey 0 = .ok (.aload_n 0, 1)) rfl ?_
  refine g_iload_n hF (by decide +kernel : decode cX5_noKey 1 = .ok (.iload_n 1, 1)) rfl ?_
  refine g_iload_n hF (by decide +kernel : decode cX5_noKey 2 = .ok (.iload_n 2, 1)) rfl ?_
  refine g_iconst hF (by decide +kernel : decode cX5_noKey 3 = .ok (.iconst 0, 1)) ?_
  refine g_iconst hF (by decide +kernel : decode cX5_noKey 4 = .ok (.iconst 0, 1)) ?_
  refine g_callV hF lkX5_49 (n2_X5_no X hX _ (by omega) _ _ _ (by omega) (by omega) (by omega) (by unfold num; omega) _) (by decide +kernel : decode cX5_noKey 5 = .ok (.invokevirtual 49, 3)) (by decide) rfl rfl rfl rfl jok51 (Nat.le_of_ble_eq_true rfl) (fun v5 m5 h5 => ?_)
  obtain ⟨rfl, e5⟩ := h5
  obtain rfl := e5.symm
  refine g_if_le hF (tgt := 22) (by decide +kernel : decode cX5_noKey 8 = .ok (.ifCond .le 14, 3)) (by decide) (by omega) (fun c8 => ?_) (fun c8 => ?_)
  · skip
    exact absurd c8 (by decide)
  · skip
    refine g_aload_n hF (by decide +kernel : decode cX5_noKey 11 = .ok (.aload_n 0, 1)) rfl ?_
    refine g_iload_n hF (by decide +kernel : decode cX5_noKey 12 = .ok (.iload_n 1, 1)) rfl ?_
    refine g_iload_n hF (by decide +kernel : decode cX5_noKey 13 = .ok (.iload_n 2, 1)) rfl ?_
    refine g_iconst hF (by decide +kernel : decode cX5_noKey 14 = .ok (.iconst 0, 1)) ?_
    refine g_iconst hF (by decide +kernel : decode cX5_noKey 15 = .ok (.iconst 0, 1)) ?_
    refine g_callV hF lkX5_49 (n2_X5_no X hX _ (by omega) _ _ _ (by omega) (by omega) (by omega) (by unfold num; omega) _) (by decide +kernel : decode cX5_noKey 16 = .ok (.invokevirtual 49, 3)) (by decide) rfl rfl rfl rfl jok51 (Nat.le_of_ble_eq_true rfl) (fun v16 m16 h16 => ?_)
    obtain ⟨rfl, e16⟩ := h16
    obtain rfl := e16.symm
    refine g_goto hF (tgt := 38) (by decide +kernel : decode cX5_noKey 19 = .ok (.goto 19, 3)) (by decide) ?_
    refine g_ireturn hF hQ (by decide +kernel : decode cX5_noKey 38 = .ok (.ireturn, 1)) ?_
    exact ⟨rfl, rfl⟩
set_option maxHeartbeats 4000000 in
set_option maxRecDepth 100000 in
theorem c_X5_isLast (X : jX) (hX : jxok X) (j w : Nat) (m : jM) (hw : w ≤ 60) (h0 : m 51 0 = w) (hj : j < w) (hK : ∀ z : Int, 0 ≤ z → z < w → jr (m 55 z)) : Con X yX5_isLast cX5_isLast 4 (some .boolean) 1 [vR 2 51, vI j] m (fun o m' => o = some (vI (bI (isL (m 55) w j))) ∧ m' = m) := by
  refine Con.of hX (by decide) (Nat.le_of_ble_eq_true rfl) (fun F hF hQ => ?_)
  refine g_iconst hF (by decide +kernel : decode cX5_isLast 0 = .ok (.iconst 1, 1)) ?_
  refine g_istore_n hF (by decide +kernel : decode cX5_isLast 1 = .ok (.istore_n 2, 1)) (by decide) ?_
  refine g_iload_n hF (by decide +kernel : decode cX5_isLast 2 = .ok (.iload_n 1, 1)) rfl ?_
  refine g_iconst hF (by decide +kernel : decode cX5_isLast 3 = .ok (.iconst 1, 1)) ?_
  refine g_iadd hF (by decide +kernel : decode cX5_isLast 4 = .ok (.iadd, 1)) ?_
  refine g_istore_n hF (by decide +kernel : decode cX5_isLast 5 = .ok (.istore_n 3, 1)) (by decide) ?_
  have loop : ∀ (n i : Nat) (a : Int), j < i → i ≤ w → w < i + n → a = bI (∀ z : Int, (j : Int) < z → z < i → m 55 z ≠ m 55 j) → jG F X m 6 [(0, vR 2 51), (1, vI j), (2, vI a), (3, vI i)] [] := by
    intro n
    induction n with
    | zero => intro i a h1 h2 h3; exact absurd h3 (by omega)
    | succ n ih =>
      intro i a h1 h2 h3 hc
      have kj := hK j (by omega) (by omega)
      refine g_iload_n hF (by decide +kernel : decode cX5_isLast 6 = .ok (.iload_n 3, 1)) rfl ?_
      refine g_aload_n hF (by decide +kernel : decode cX5_isLast 7 = .ok (.aload_n 0, 1)) rfl ?_
      refine g_getC hF lkX5_99 (by decide +kernel : decode cX5_isLast 8 = .ok (.getfield 99, 3)) jok51 rfl rfl ?_
      rw [h0]
      refine g_icmp_ge hF (tgt := 43) (by decide +kernel : decode cX5_isLast 11 = .ok (.if_icmp .ge 32, 3)) (by decide) (by omega) (by omega) (fun c11 => ?_) (fun c11 => ?_)
      · skip
        refine g_iload_n hF (by decide +kernel : decode cX5_isLast 43 = .ok (.iload_n 2, 1)) rfl ?_
        rw [hc, show bI (∀ z : Int, (j : Int) < z → z < i → m 55 z ≠ m 55 j) = bI (isL (m 55) w j) from bI_iff ⟨fun q z a b => q z (by omega) (by omega), fun q z a b => by have := q z.toNat (by omega) (by omega); rw [show ((z.toNat : Nat) : Int) = z by omega] at this; exact this⟩]
        refine g_zreturn hF hQ (by decide +kernel : decode cX5_isLast 44 = .ok (.ireturn, 1)) (bI_c _) ?_
        exact ⟨rfl, rfl⟩
      · skip
        refine g_iload_n hF (by decide +kernel : decode cX5_isLast 14 = .ok (.iload_n 2, 1)) rfl ?_
        refine g_aload_n hF (by decide +kernel : decode cX5_isLast 15 = .ok (.aload_n 0, 1)) rfl ?_
        refine g_getC hF lkX5_19 (by decide +kernel : decode cX5_isLast 16 = .ok (.getfield 19, 3)) jok51 rfl rfl ?_
        refine g_iload_n hF (by decide +kernel : decode cX5_isLast 19 = .ok (.iload_n 3, 1)) rfl ?_
        refine g_ldC hF (n := 60) (by decide +kernel : decode cX5_isLast 20 = .ok (.iaload, 1)) jrr55 rfl (by omega) ?_
        refine g_aload_n hF (by decide +kernel : decode cX5_isLast 21 = .ok (.aload_n 0, 1)) rfl ?_
        refine g_getC hF lkX5_19 (by decide +kernel : decode cX5_isLast 22 = .ok (.getfield 19, 3)) jok51 rfl rfl ?_
        refine g_iload_n hF (by decide +kernel : decode cX5_isLast 25 = .ok (.iload_n 1, 1)) rfl ?_
        refine g_ldC hF (n := 60) (by decide +kernel : decode cX5_isLast 26 = .ok (.iaload, 1)) jrr55 rfl (by omega) ?_
        have ki := hK i (by omega) (by omega)
        refine g_icmp_eq hF (tgt := 34) (by decide +kernel : decode cX5_isLast 27 = .ok (.if_icmp .eq 7, 3)) (by decide) (by omega) (by omega) (fun c27 => ?_) (fun c27 => ?_)
        · skip
          refine g_iconst hF (by decide +kernel : decode cX5_isLast 34 = .ok (.iconst 0, 1)) ?_
          refine g_iand hF (by decide +kernel : decode cX5_isLast 35 = .ok (.iand, 1)) ?_
          refine g_istore_n hF (by decide +kernel : decode cX5_isLast 36 = .ok (.istore_n 2, 1)) (by decide) ?_
          refine g_iinc hF (by decide +kernel : decode cX5_isLast 37 = .ok (.iinc 3 1, 3)) rfl (by decide) ?_
          refine g_goto hF (tgt := 6) (by decide +kernel : decode cX5_isLast 40 = .ok (.goto (-34), 3)) (by decide) ?_
          exact ih (i + 1) _ (by omega) (by omega) (by omega) (by rw [hc, and0]; exact (bI_f (fun q => q i (by omega) (by omega) c27)).symm)
        · skip
          refine g_iconst hF (by decide +kernel : decode cX5_isLast 30 = .ok (.iconst 1, 1)) ?_
          refine g_goto hF (tgt := 35) (by decide +kernel : decode cX5_isLast 31 = .ok (.goto 4, 3)) (by decide) ?_
          refine g_iand hF (by decide +kernel : decode cX5_isLast 35 = .ok (.iand, 1)) ?_
          refine g_istore_n hF (by decide +kernel : decode cX5_isLast 36 = .ok (.istore_n 2, 1)) (by decide) ?_
          refine g_iinc hF (by decide +kernel : decode cX5_isLast 37 = .ok (.iinc 3 1, 3)) rfl (by decide) ?_
          refine g_goto hF (tgt := 6) (by decide +kernel : decode cX5_isLast 40 = .ok (.goto (-34), 3)) (by decide) ?_
          exact ih (i + 1) _ (by omega) (by omega) (by omega) (by rw [hc, and1]; exact bI_iff ⟨fun q z a b => by rcases Int.lt_or_le z i with y | y; { exact q z a y }; { rw [show z = (i : Int) by omega]; exact c27 }, fun q z a b => q z a (by omega)⟩)
  exact loop (w + 1) (j + 1) 1 (by omega) (by omega) (by omega) (bI_t (fun z a b => absurd b (by omega))).symm
set_option maxHeartbeats 4000000 in
set_option maxRecDepth 100000 in
theorem y_X5_areNone (X : jX) (hX : jxok X) (s : Nat) (hs : s < 8) (u : Nat) (hu : u < 8) (w : Nat) (hw : w < 8) (m : jM) : Con X yX5_areNone cX5_areNone 4 (some .boolean) 3 [vR 2 51, vI s, vI u, vI w] m (fun o m' => o = some (vI 0) ∧ m' = mset m 51 2 0) := by
  refine Con.of hX (by decide) (Nat.le_of_ble_eq_true rfl) (fun F hF hQ => ?_)
  refine g_aload_n hF (by decide +kernel : decode cX5_areNone 0 = .ok (.aload_n 0, 1)) rfl ?_
  refine g_iload_n hF (by decide +kernel : decode cX5_areNone 1 = .ok (.iload_n 1, 1)) rfl ?_
  refine g_callS hF lkX5_42 (y_X5_isSlot X hX _ (by omega) (by omega) _) (by decide +kernel : decode cX5_areNone 2 = .ok (.invokestatic 42, 3)) (by decide) rfl rfl (Nat.le_of_ble_eq_true rfl) (fun v2 m2 h2 => ?_)
  obtain ⟨rfl, e2⟩ := h2
  obtain rfl := e2.symm
  refine g_if_eq hF (tgt := 26) (by decide +kernel : decode cX5_areNone 5 = .ok (.ifCond .eq 21, 3)) (by decide) (by omega) (fun c5 => ?_) (fun c5 => ?_)
  · skip
    exact absurd c5 (by decide)
  · skip
    refine g_iload_n hF (by decide +kernel : decode cX5_areNone 8 = .ok (.iload_n 2, 1)) rfl ?_
    refine g_callS hF lkX5_42 (y_X5_isSlot X hX _ (by omega) (by omega) _) (by decide +kernel : decode cX5_areNone 9 = .ok (.invokestatic 42, 3)) (by decide) rfl rfl (Nat.le_of_ble_eq_true rfl) (fun v9 m9 h9 => ?_)
    obtain ⟨rfl, e9⟩ := h9
    obtain rfl := e9.symm
    refine g_if_eq hF (tgt := 26) (by decide +kernel : decode cX5_areNone 12 = .ok (.ifCond .eq 14, 3)) (by decide) (by omega) (fun c12 => ?_) (fun c12 => ?_)
    · skip
      exact absurd c12 (by decide)
    · skip
      refine g_iload_n hF (by decide +kernel : decode cX5_areNone 15 = .ok (.iload_n 3, 1)) rfl ?_
      refine g_callS hF lkX5_42 (y_X5_isSlot X hX _ (by omega) (by omega) _) (by decide +kernel : decode cX5_areNone 16 = .ok (.invokestatic 42, 3)) (by decide) rfl rfl (Nat.le_of_ble_eq_true rfl) (fun v16 m16 h16 => ?_)
      obtain ⟨rfl, e16⟩ := h16
      obtain rfl := e16.symm
      refine g_if_eq hF (tgt := 26) (by decide +kernel : decode cX5_areNone 19 = .ok (.ifCond .eq 7, 3)) (by decide) (by omega) (fun c19 => ?_) (fun c19 => ?_)
      · skip
        exact absurd c19 (by decide)
      · skip
        refine g_iconst hF (by decide +kernel : decode cX5_areNone 22 = .ok (.iconst 0, 1)) ?_
        refine g_goto hF (tgt := 27) (by decide +kernel : decode cX5_areNone 23 = .ok (.goto 4, 3)) (by decide) ?_
        refine g_callV hF lkX5_53 (y_X5_fails X hX _) (by decide +kernel : decode cX5_areNone 27 = .ok (.invokevirtual 53, 3)) (by decide) rfl rfl rfl rfl jok51 (Nat.le_of_ble_eq_true rfl) (fun v27 m27 h27 => ?_)
        obtain ⟨rfl, e27⟩ := h27
        obtain rfl := e27.symm
        refine g_zreturn hF hQ (by decide +kernel : decode cX5_areNone 30 = .ok (.ireturn, 1)) (by first | exact Or.inl rfl | exact Or.inr rfl | omega) ?_
        exact ⟨rfl, rfl⟩
set_option maxHeartbeats 4000000 in
set_option maxRecDepth 100000 in
theorem n_X5_areNone (X : jX) (hX : jxok X) (u w x : Int) (ju : jr u) (jw : jr w) (jx : jr x) (h : ¬ ((0 ≤ u ∧ u < 8) ∧ (0 ≤ w ∧ w < 8) ∧ (0 ≤ x ∧ x < 8))) (m : jM) : Con X yX5_areNone cX5_areNone 4 (some .boolean) 3 [vR 2 51, vI u, vI w, vI x] m (fun o m' => o = some (vI 1) ∧ m' = mset m 51 2 1) := by
  refine Con.of hX (by decide) (Nat.le_of_ble_eq_true rfl) (fun F hF hQ => ?_)
  refine g_aload_n hF (by decide +kernel : decode cX5_areNone 0 = .ok (.aload_n 0, 1)) rfl ?_
  refine g_iload_n hF (by decide +kernel : decode cX5_areNone 1 = .ok (.iload_n 1, 1)) rfl ?_
  rcases Classical.em (0 ≤ u ∧ u < 8) with s2 | s2
  · skip
    refine g_callS hF lkX5_42 (y_X5_isSlot X hX _ (by omega) (by omega) _) (by decide +kernel : decode cX5_areNone 2 = .ok (.invokestatic 42, 3)) (by decide) rfl rfl (Nat.le_of_ble_eq_true rfl) (fun v2 m2 h2 => ?_)
    obtain ⟨rfl, e2⟩ := h2
    obtain rfl := e2.symm
    refine g_if_eq hF (tgt := 26) (by decide +kernel : decode cX5_areNone 5 = .ok (.ifCond .eq 21, 3)) (by decide) (by omega) (fun c5 => ?_) (fun c5 => ?_)
    · skip
      exact absurd c5 (by decide)
    · skip
      refine g_iload_n hF (by decide +kernel : decode cX5_areNone 8 = .ok (.iload_n 2, 1)) rfl ?_
      rcases Classical.em (0 ≤ w ∧ w < 8) with s9 | s9
      · skip
        refine g_callS hF lkX5_42 (y_X5_isSlot X hX _ (by omega) (by omega) _) (by decide +kernel : decode cX5_areNone 9 = .ok (.invokestatic 42, 3)) (by decide) rfl rfl (Nat.le_of_ble_eq_true rfl) (fun v9 m9 h9 => ?_)
        obtain ⟨rfl, e9⟩ := h9
        obtain rfl := e9.symm
        refine g_if_eq hF (tgt := 26) (by decide +kernel : decode cX5_areNone 12 = .ok (.ifCond .eq 14, 3)) (by decide) (by omega) (fun c12 => ?_) (fun c12 => ?_)
        · skip
          exact absurd c12 (by decide)
        · skip
          refine g_iload_n hF (by decide +kernel : decode cX5_areNone 15 = .ok (.iload_n 3, 1)) rfl ?_
          refine g_callS hF lkX5_42 (n_X5_isSlot X hX _ (by omega) (fun q => h ⟨s2, s9, q⟩) _) (by decide +kernel : decode cX5_areNone 16 = .ok (.invokestatic 42, 3)) (by decide) rfl rfl (Nat.le_of_ble_eq_true rfl) (fun v16 m16 h16 => ?_)
          obtain ⟨rfl, e16⟩ := h16
          obtain rfl := e16.symm
          refine g_if_eq hF (tgt := 26) (by decide +kernel : decode cX5_areNone 19 = .ok (.ifCond .eq 7, 3)) (by decide) (by omega) (fun c19 => ?_) (fun c19 => ?_)
          · skip
            refine g_iconst hF (by decide +kernel : decode cX5_areNone 26 = .ok (.iconst 1, 1)) ?_
            refine g_callV hF lkX5_53 (n_X5_fails X hX _ (by decide) _) (by decide +kernel : decode cX5_areNone 27 = .ok (.invokevirtual 53, 3)) (by decide) rfl rfl rfl rfl jok51 (Nat.le_of_ble_eq_true rfl) (fun v27 m27 h27 => ?_)
            obtain ⟨rfl, e27⟩ := h27
            obtain rfl := e27.symm
            refine g_zreturn hF hQ (by decide +kernel : decode cX5_areNone 30 = .ok (.ireturn, 1)) (by first | exact Or.inl rfl | exact Or.inr rfl | omega) ?_
            exact ⟨rfl, rfl⟩
          · skip
            exact absurd c19 (by decide)
      · skip
        refine g_callS hF lkX5_42 (n_X5_isSlot X hX _ (by omega) (by omega) _) (by decide +kernel : decode cX5_areNone 9 = .ok (.invokestatic 42, 3)) (by decide) rfl rfl (Nat.le_of_ble_eq_true rfl) (fun v9 m9 h9 => ?_)
        obtain ⟨rfl, e9⟩ := h9
        obtain rfl := e9.symm
        refine g_if_eq hF (tgt := 26) (by decide +kernel : decode cX5_areNone 12 = .ok (.ifCond .eq 14, 3)) (by decide) (by omega) (fun c12 => ?_) (fun c12 => ?_)
        · skip
          refine g_iconst hF (by decide +kernel : decode cX5_areNone 26 = .ok (.iconst 1, 1)) ?_
          refine g_callV hF lkX5_53 (n_X5_fails X hX _ (by decide) _) (by decide +kernel : decode cX5_areNone 27 = .ok (.invokevirtual 53, 3)) (by decide) rfl rfl rfl rfl jok51 (Nat.le_of_ble_eq_true rfl) (fun v27 m27 h27 => ?_)
          obtain ⟨rfl, e27⟩ := h27
          obtain rfl := e27.symm
          refine g_zreturn hF hQ (by decide +kernel : decode cX5_areNone 30 = .ok (.ireturn, 1)) (by first | exact Or.inl rfl | exact Or.inr rfl | omega) ?_
          exact ⟨rfl, rfl⟩
        · skip
          exact absurd c12 (by decide)
  · skip
    refine g_callS hF lkX5_42 (n_X5_isSlot X hX _ (by omega) (by omega) _) (by decide +kernel : decode cX5_areNone 2 = .ok (.invokestatic 42, 3)) (by decide) rfl rfl (Nat.le_of_ble_eq_true rfl) (fun v2 m2 h2 => ?_)
    obtain ⟨rfl, e2⟩ := h2
    obtain rfl := e2.symm
    refine g_if_eq hF (tgt := 26) (by decide +kernel : decode cX5_areNone 5 = .ok (.ifCond .eq 21, 3)) (by decide) (by omega) (fun c5 => ?_) (fun c5 => ?_)
    · skip
      refine g_iconst hF (by decide +kernel : decode cX5_areNone 26 = .ok (.iconst 1, 1)) ?_
      refine g_callV hF lkX5_53 (n_X5_fails X hX _ (by decide) _) (by decide +kernel : decode cX5_areNone 27 = .ok (.invokevirtual 53, 3)) (by decide) rfl rfl rfl rfl jok51 (Nat.le_of_ble_eq_true rfl) (fun v27 m27 h27 => ?_)
      obtain ⟨rfl, e27⟩ := h27
      obtain rfl := e27.symm
      refine g_zreturn hF hQ (by decide +kernel : decode cX5_areNone 30 = .ok (.ireturn, 1)) (by first | exact Or.inl rfl | exact Or.inr rfl | omega) ?_
      exact ⟨rfl, rfl⟩
    · skip
      exact absurd c5 (by decide)

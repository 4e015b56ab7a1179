/-! CONSTRUCTORS with loops: the kept maps, the class, the check -/
def tabs (Y : kX) (t u : Nat → Nat) : Nat → va_W
  | 0 => []
  | i + 1 => tabs Y t u i ++ tabC Y (t i) (u i)
theorem tabs_congr {Y : kX} {t u t2 u2 : Nat → Nat} : ∀ i : Nat, (∀ k : Nat, k < i → t k = t2 k ∧ u k = u2 k) → tabs Y t u i = tabs Y t2 u2 i
  | 0, _ => rfl
  | i + 1, h => by
    show tabs Y t u i ++ tabC Y (t i) (u i) = tabs Y t2 u2 i ++ tabC Y (t2 i) (u2 i)
    rw [tabs_congr i (fun k hk => h k (by omega)), (h i (by omega)).1, (h i (by omega)).2]
/-- the first i places of a row of tables -/
def refs (t : Nat → Nat) (i : Nat) : Nat → Option Nat := fun k => if k < i then some (t k) else none
theorem refs_0 (t : Nat → Nat) : refs t 0 = fun _ => none := by
  funext k
  exact if_neg (by omega)
theorem refs_s {t : Nat → Nat} {i a : Nat} : va_up (refs t i) i (some a) = refs (fun k => if k = i then a else t k) (i + 1) := by
  funext k
  unfold va_up refs
  by_cases e : k = i
  · rw [if_pos e, if_pos (by omega)]
    show some a = some (if k = i then a else t k)
    rw [if_pos e]
  · rw [if_neg e]
    show (if k < i then some (t k) else none) = if k < i + 1 then some (if k = i then a else t k) else none
    rw [if_neg e]
    by_cases e2 : k < i
    · rw [if_pos e2, if_pos (by omega)]
    · rw [if_neg e2, if_neg (by omega)]
def pastC (Y : kX) (h a b : Nat) (t u : Nat → Nat) : va_W := tabs Y t u 8 ++ [(h, .inr (0, [.ref a, .ref b, .int (Int32.ofInt 0), .int (Int32.ofInt 0)])), (a, .inl (kc Y (.object RX2), 8, .inr (.inr (.inr (.inr (refs t 8)))))), (b, .inl (kc Y .int, 8, .inl (fun _ => Int32.ofInt 0)))]
set_option maxHeartbeats 4000000 in
set_option maxRecDepth 100000 in
theorem kc_X0_init (Y : kX) (h : Nat) : KCon Y yX0_init cX0_init 2 4 18 2088 [.ref h] [] [(h, .inr (0, [.null, .null, .int (Int32.ofInt 0), .int (Int32.ofInt 0)]))] [(kc Y (.object RX2), .object RX2), (kc Y .int, .int)] (fun L' => ∃ (a b : Nat) (t u : Nat → Nat), L' = pastC Y h a b t u) := by
  refine KCon.of (by decide) (Nat.le_of_ble_eq_true rfl) (fun pre F hF hQ hr hnm hR => ?_)
  refine k_aload hF 0 (by decide +kernel : decode cX0_init 0 = .ok (.aload_n 0, 1)) rfl ?_
  refine k_obj hF (Tb_in (tin1 (List.mem_of_getElem? (i := 61) (by decide +kernel))) (by decide +kernel)) koin koco (by decide) (by decide +kernel : decode cX0_init 1 = .ok (.invokespecial 3, 3)) ?_
  refine k_aload hF 0 (by decide +kernel : decode cX0_init 4 = .ok (.aload_n 0, 1)) rfl ?_
  refine k_bip hF (by decide +kernel : decode cX0_init 5 = .ok (.bipush 8, 2)) (by decide) ?_
  refine k_newref hF (Tb_in (tin1 (List.mem_of_getElem? (i := 62) (by decide +kernel))) (by decide +kernel)) (N := 8) rfl (by decide) (by rw [hR]; exact Nat.le_of_ble_eq_true rfl) (by rw [hR]; exact Nat.le_of_ble_eq_true rfl) (by decide +kernel : decode cX0_init 7 = .ok (.anewarray 9, 3)) (fun q7 => ?_)
  refine k_putF hF (hnm.trans rfl) 0 rfl (T0 := TX0) (N := 4) (ci := 0) rfl 0 (by decide) (Tb_in (tin1 (List.mem_of_getElem? (i := 79) (by decide +kernel))) (by decide +kernel)) rfl rfl (ty := .array (.object RX2)) (by decide +kernel) rfl rfl (by simp) (by decide +kernel : decode cX0_init 10 = .ok (.putfield 11, 3)) ?_
  refine k_aload hF 0 (by decide +kernel : decode cX0_init 13 = .ok (.aload_n 0, 1)) rfl ?_
  refine k_bip hF (by decide +kernel : decode cX0_init 14 = .ok (.bipush 8, 2)) (by decide) ?_
  refine k_newarr hF (atype := .int) (ty := .int) rfl kac_int (8, .inl (fun _ => Int32.ofInt 0)) (N := 8) rfl (by decide) (fun _ => rfl) (by decide) (by rw [hR]; exact Nat.le_of_ble_eq_true rfl) (by rw [hR]; exact Nat.le_of_ble_eq_true rfl) (by decide +kernel : decode cX0_init 16 = .ok (.newarray .int, 2)) (fun q16 => ?_)
  refine k_putF hF (hnm.trans rfl) 0 rfl (T0 := TX0) (N := 4) (ci := 0) rfl 1 (by decide) (Tb_in (tin1 (List.mem_of_getElem? (i := 80) (by decide +kernel))) (by decide +kernel)) rfl rfl (ty := .array .int) (by decide +kernel) rfl rfl (by simp) (by decide +kernel : decode cX0_init 18 = .ok (.putfield 17, 3)) ?_
  refine k_aload hF 0 (by decide +kernel : decode cX0_init 21 = .ok (.aload_n 0, 1)) rfl ?_
  refine k_ico hF (by decide +kernel : decode cX0_init 22 = .ok (.iconst 0, 1)) ?_
  refine k_put hF 0 rfl (T0 := TX0) (N := 4) (ci := 0) rfl 2 (by decide) (Tb_in (tin1 (List.mem_of_getElem? (i := 81) (by decide +kernel))) (by decide +kernel)) rfl (ty := .int) (by decide +kernel) rfl rfl (by simp) (by decide +kernel : decode cX0_init 23 = .ok (.putfield 21, 3)) ?_
  refine k_aload hF 0 (by decide +kernel : decode cX0_init 26 = .ok (.aload_n 0, 1)) rfl ?_
  refine k_ico hF (by decide +kernel : decode cX0_init 27 = .ok (.iconst 0, 1)) ?_
  refine k_put hF 0 rfl (T0 := TX0) (N := 4) (ci := 0) rfl 3 (by decide) (Tb_in (tin1 (List.mem_of_getElem? (i := 82) (by decide +kernel))) (by decide +kernel)) rfl (ty := .int) (by decide +kernel) rfl rfl (by simp) (by decide +kernel : decode cX0_init 28 = .ok (.putfield 25, 3)) ?_
  refine k_ico hF (by decide +kernel : decode cX0_init 31 = .ok (.iconst 0, 1)) ?_
  refine k_istore hF (by decide +kernel : decode cX0_init 32 = .ok (.istore_n 1, 1)) (by decide) ?_
  have loop : ∀ (n i : Nat) (t u : Nat → Nat), i ≤ 8 → 9 ≤ i + n → kG F Y [(kc Y (.object RX2), .object RX2), (kc Y .int, .int)] (pre ++ tabs Y t u i) [(h, .inr (0, [.ref q7, .ref q16, .int (Int32.ofInt 0), .int (Int32.ofInt 0)])), (q7, .inl (kc Y (.object RX2), 8, .inr (.inr (.inr (.inr (refs t i)))))), (q16, .inl (kc Y .int, 8, .inl (fun _ => Int32.ofInt 0)))] (2 + 2 * i) (16 + 259 * i) 33 [(1, .int (Int32.ofInt (i : Int))), (0, .ref h)] [] := by
    intro n
    induction n with
    | zero => intro i t u h1 h2; exact absurd h2 (by omega)
    | succ n ih =>
      intro i t u h1 h2
      refine k_iload hF 0 (by decide +kernel : decode cX0_init 33 = .ok (.iload_n 1, 1)) rfl ?_
      refine k_bip hF (by decide +kernel : decode cX0_init 34 = .ok (.bipush 8, 2)) (by decide) ?_
      refine k_ge hF (tgt := 58) (by decide +kernel : decode cX0_init 36 = .ok (.if_icmp .ge 22, 3)) (by decide) (by omega) (by decide) (fun c => ?_) (fun c => ?_)
      · obtain rfl : i = 8 := by omega
        exact k_ret hF hQ hr (Nat.le_of_ble_eq_true rfl) (Nat.le_of_ble_eq_true rfl) (by intro q hq; exact hq) (by decide +kernel : decode cX0_init 58 = .ok (.return_, 1)) ⟨_, ⟨q7, q16, t, u, rfl⟩, List.append_assoc _ _ _⟩
      · refine k_aload hF 1 (by decide +kernel : decode cX0_init 39 = .ok (.aload_n 0, 1)) rfl ?_
        refine k_get hF 0 rfl (T0 := TX0) (N := 4) (ci := 0) rfl 0 (by decide) (Tb_in (tin1 (List.mem_of_getElem? (i := 79) (by decide +kernel))) (by decide +kernel)) rfl (by decide +kernel : decode cX0_init 40 = .ok (.getfield 11, 3)) ?_
        refine k_iload hF 0 (by decide +kernel : decode cX0_init 43 = .ok (.iload_n 1, 1)) rfl ?_
        refine k_new hF (ci := 2) (T0 := TX2) (N := 2) rfl tyX2 tyX2_ok (Tb_in (tin1 (List.mem_of_getElem? (i := 62) (by decide +kernel))) (by decide +kernel)) kin_X2 kini_X2 kdef_X2 (by rw [hR]; show 2 + 2 * i + 1 ≤ 18; omega) (by rw [hR]; show 16 + 259 * i + 2 ≤ 2088; omega) (by decide +kernel : decode cX0_init 44 = .ok (.new 9, 3)) (fun tq => ?_)
        refine k_dup hF (by decide +kernel : decode cX0_init 47 = .ok (.dup, 1)) ?_
        refine k_callI hF lkIX0_28 3 rfl (kc_X2_init Y tq) (by decide +kernel : decode cX0_init 48 = .ok (.invokespecial 28, 3)) (by decide) (Nat.le_of_ble_eq_true rfl) (by rw [hR]; show 2 + 2 * i + 1 + 1 ≤ 18; omega) (by rw [hR]; show 16 + 259 * i + 2 + 257 ≤ 2088; omega) (fun L9 h9 => ?_)
        obtain ⟨uq, rfl⟩ := h9
        refine k_aast hF 1 0 3 rfl rfl rfl (z := (i : Int)) (by omega) (by omega) (by decide +kernel : decode cX0_init 51 = .ok (.aastore, 1)) ?_
        refine k_iinc hF 0 (by decide +kernel : decode cX0_init 52 = .ok (.iinc 1 1, 3)) rfl (by decide) ?_
        refine k_goto hF (tgt := 33) (by decide +kernel : decode cX0_init 55 = .ok (.goto (-22), 3)) (by decide) ?_
        refine k_mov 3 ?_
        refine k_T (T2 := [(kc Y (.object RX2), .object RX2), (kc Y .int, .int)]) (fun q hq => List.mem_append_left _ hq) ?_
        simp only [List.take_succ_cons, List.take_zero, List.drop_succ_cons, List.drop_zero, List.set_cons_zero, List.set_cons_succ, List.cons_append, List.nil_append]
        refine k_n (k2 := 2 + 2 * (i + 1)) (n2 := 16 + 259 * (i + 1)) (by omega) (by omega) ?_
        have e1 : tabs Y (fun k => if k = i then tq else t k) (fun k => if k = i then uq else u k) (i + 1) = tabs Y t u i ++ tabC Y tq uq := by
          show tabs Y (fun k => if k = i then tq else t k) (fun k => if k = i then uq else u k) i ++ tabC Y (if i = i then tq else t i) (if i = i then uq else u i) = _
          rw [if_pos rfl, if_pos rfl, tabs_congr (t2 := t) (u2 := u) i (fun k hk => ⟨if_neg (by omega), if_neg (by omega)⟩)]
        have h8 := ih (i + 1) (fun k => if k = i then tq else t k) (fun k => if k = i then uq else u k) (by omega) (by omega)
        rw [e1, ← refs_s, ← List.append_assoc] at h8
        exact h8
  have h8 := loop 9 0 (fun _ => 0) (fun _ => 0) (by omega) (by omega)
  rw [refs_0] at h8
  exact k_w (P2 := pre ++ []) (by rw [List.append_nil]; rfl) h8
def kwC (Y : kX) (h mq tal r0 r1 r2 r3 r4 p0 p1 p2 w0 w1 d0 d1 s0 s1 h0 h1 : Nat) (pt pu t u : Nat → Nat) : va_W := rowC Y r0 r1 r2 r3 r4 ++ (pastC Y p0 p1 p2 pt pu ++ (walkC Y w0 w1 ++ (tabC Y d0 d1 ++ (tabC Y s0 s1 ++ (tabC Y h0 h1 ++ (tabs Y t u 8 ++ [(h, .inr (4, [.ref mq, .ref r0, .ref p0, .ref w0, .ref d0, .ref s0, .ref h0, .ref tal])), (mq, .inl (kc Y (.object RX2), 8, .inr (.inr (.inr (.inr (refs t 8)))))), (tal, .inl (kc Y .int, 257, .inl (fun _ => Int32.ofInt 0)))]))))))
set_option maxHeartbeats 4000000 in
set_option maxRecDepth 100000 in
theorem kc_X4_init (Y : kX) (h : Nat) : KCon Y yX4_init cX4_init 2 5 50 5881 [.ref h] [] [(h, .inr (4, [.null, .null, .null, .null, .null, .null, .null, .null]))] [(kc Y (.object RX2), .object RX2), (kc Y .int, .int), (kc Y .int, .int), (kc Y .boolean, .boolean), (kc Y .int, .int), (kc Y (.object RX2), .object RX2), (kc Y .int, .int), (kc Y .int, .int), (kc Y .int, .int), (kc Y .int, .int), (kc Y .int, .int), (kc Y .int, .int)] (fun L' => ∃ (mq tal r0 r1 r2 r3 r4 p0 p1 p2 w0 w1 d0 d1 s0 s1 h0 h1 : Nat) (pt pu t u : Nat → Nat), L' = kwC Y h mq tal r0 r1 r2 r3 r4 p0 p1 p2 w0 w1 d0 d1 s0 s1 h0 h1 pt pu t u) := by
  refine KCon.of (by decide) (Nat.le_of_ble_eq_true rfl) (fun pre F hF hQ hr hnm hR => ?_)
  refine k_aload hF 0 (by decide +kernel : decode cX4_init 0 = .ok (.aload_n 0, 1)) rfl ?_
  refine k_obj hF (Tb_in (tin1 (List.mem_of_getElem? (i := 26) (by decide +kernel))) (by decide +kernel)) koin koco (by decide) (by decide +kernel : decode cX4_init 1 = .ok (.invokespecial 1, 3)) ?_
  refine k_aload hF 0 (by decide +kernel : decode cX4_init 4 = .ok (.aload_n 0, 1)) rfl ?_
  refine k_bip hF (by decide +kernel : decode cX4_init 5 = .ok (.bipush 8, 2)) (by decide) ?_
  refine k_newref hF (Tb_in (tin1 (List.mem_of_getElem? (i := 29) (by decide +kernel))) (by decide +kernel)) (N := 8) rfl (by decide) (by rw [hR]; exact Nat.le_of_ble_eq_true rfl) (by rw [hR]; exact Nat.le_of_ble_eq_true rfl) (by decide +kernel : decode cX4_init 7 = .ok (.anewarray 9, 3)) (fun q7 => ?_)
  refine k_putF hF (hnm.trans rfl) 0 rfl (T0 := TX4) (N := 8) (ci := 4) rfl 0 (by decide) (Tb_in (tin1 (List.mem_of_getElem? (i := 114) (by decide +kernel))) (by decide +kernel)) rfl rfl (ty := .array (.object RX2)) (by decide +kernel) rfl rfl (by simp) (by decide +kernel : decode cX4_init 10 = .ok (.putfield 11, 3)) ?_
  refine k_aload hF 0 (by decide +kernel : decode cX4_init 13 = .ok (.aload_n 0, 1)) rfl ?_
  refine k_new hF (ci := 1) (T0 := TX1) (N := 5) rfl tyX1 tyX1_ok (Tb_in (tin1 (List.mem_of_getElem? (i := 31) (by decide +kernel))) (by decide +kernel)) kin_X1 kini_X1 kdef_X1 (by rw [hR]; exact Nat.le_of_ble_eq_true rfl) (by rw [hR]; exact Nat.le_of_ble_eq_true rfl) (by decide +kernel : decode cX4_init 14 = .ok (.new 15, 3)) (fun q14 => ?_)
  refine k_dup hF (by decide +kernel : decode cX4_init 17 = .ok (.dup, 1)) ?_
  refine k_callI hF lkIX4_17 2 rfl (kc_X1_init Y q14) (by decide +kernel : decode cX4_init 18 = .ok (.invokespecial 17, 3)) (by decide) (Nat.le_of_ble_eq_true rfl) (by rw [hR]; exact Nat.le_of_ble_eq_true rfl) (by rw [hR]; exact Nat.le_of_ble_eq_true rfl) (fun L18 h18 => ?_)
  obtain ⟨a18, b18, c18, e18, rfl⟩ := h18
  refine k_mov 2 ?_
  simp only [List.take_succ_cons, List.take_zero, List.drop_succ_cons, List.drop_zero, List.set_cons_zero, List.set_cons_succ, List.cons_append, List.nil_append]
  refine k_putF hF (hnm.trans rfl) 0 rfl (T0 := TX4) (N := 8) (ci := 4) rfl 1 (by decide) (Tb_in (tin1 (List.mem_of_getElem? (i := 115) (by decide +kernel))) (by decide +kernel)) rfl rfl (ty := .object RX1) (by decide +kernel) rfl rfl (by simp) (by decide +kernel : decode cX4_init 21 = .ok (.putfield 18, 3)) ?_
  refine k_aload hF 0 (by decide +kernel : decode cX4_init 24 = .ok (.aload_n 0, 1)) rfl ?_
  refine k_new hF (ci := 0) (T0 := TX0) (N := 4) rfl tyX0 tyX0_ok (Tb_in (tin1 (List.mem_of_getElem? (i := 56) (by decide +kernel))) (by decide +kernel)) kin_X0 kini_X0 kdef_X0 (by rw [hR]; exact Nat.le_of_ble_eq_true rfl) (by rw [hR]; exact Nat.le_of_ble_eq_true rfl) (by decide +kernel : decode cX4_init 25 = .ok (.new 22, 3)) (fun q25 => ?_)
  refine k_dup hF (by decide +kernel : decode cX4_init 28 = .ok (.dup, 1)) ?_
  refine k_callI hF lkIX4_24 2 rfl (kc_X0_init Y q25) (by decide +kernel : decode cX4_init 29 = .ok (.invokespecial 24, 3)) (by decide) (Nat.le_of_ble_eq_true rfl) (by rw [hR]; exact Nat.le_of_ble_eq_true rfl) (by rw [hR]; exact Nat.le_of_ble_eq_true rfl) (fun L29 h29 => ?_)
  obtain ⟨a29, b29, t29, u29, rfl⟩ := h29
  refine k_mov 2 ?_
  simp only [List.take_succ_cons, List.take_zero, List.drop_succ_cons, List.drop_zero, List.set_cons_zero, List.set_cons_succ, List.cons_append, List.nil_append]
  refine k_putF hF (hnm.trans rfl) 0 rfl (T0 := TX4) (N := 8) (ci := 4) rfl 2 (by decide) (Tb_in (tin1 (List.mem_of_getElem? (i := 116) (by decide +kernel))) (by decide +kernel)) rfl rfl (ty := .object RX0) (by decide +kernel) rfl rfl (by simp) (by decide +kernel : decode cX4_init 32 = .ok (.putfield 25, 3)) ?_
  refine k_aload hF 0 (by decide +kernel : decode cX4_init 35 = .ok (.aload_n 0, 1)) rfl ?_
  refine k_new hF (ci := 3) (T0 := TX3) (N := 4) rfl tyX3 tyX3_ok (Tb_in (tin1 (List.mem_of_getElem? (i := 93) (by decide +kernel))) (by decide +kernel)) kin_X3 kini_X3 kdef_X3 (by rw [hR]; exact Nat.le_of_ble_eq_true rfl) (by rw [hR]; exact Nat.le_of_ble_eq_true rfl) (by decide +kernel : decode cX4_init 36 = .ok (.new 29, 3)) (fun q36 => ?_)
  refine k_dup hF (by decide +kernel : decode cX4_init 39 = .ok (.dup, 1)) ?_
  refine k_callI hF lkIX4_31 2 rfl (kc_X3_init Y q36) (by decide +kernel : decode cX4_init 40 = .ok (.invokespecial 31, 3)) (by decide) (Nat.le_of_ble_eq_true rfl) (by rw [hR]; exact Nat.le_of_ble_eq_true rfl) (by rw [hR]; exact Nat.le_of_ble_eq_true rfl) (fun L40 h40 => ?_)
  obtain ⟨r40, rfl⟩ := h40
  refine k_mov 2 ?_
  simp only [List.take_succ_cons, List.take_zero, List.drop_succ_cons, List.drop_zero, List.set_cons_zero, List.set_cons_succ, List.cons_append, List.nil_append]
  refine k_putF hF (hnm.trans rfl) 0 rfl (T0 := TX4) (N := 8) (ci := 4) rfl 3 (by decide) (Tb_in (tin1 (List.mem_of_getElem? (i := 117) (by decide +kernel))) (by decide +kernel)) rfl rfl (ty := .object RX3) (by decide +kernel) rfl rfl (by simp) (by decide +kernel : decode cX4_init 43 = .ok (.putfield 32, 3)) ?_
  refine k_aload hF 0 (by decide +kernel : decode cX4_init 46 = .ok (.aload_n 0, 1)) rfl ?_
  refine k_new hF (ci := 2) (T0 := TX2) (N := 2) rfl tyX2 tyX2_ok (Tb_in (tin1 (List.mem_of_getElem? (i := 29) (by decide +kernel))) (by decide +kernel)) kin_X2 kini_X2 kdef_X2 (by rw [hR]; exact Nat.le_of_ble_eq_true rfl) (by rw [hR]; exact Nat.le_of_ble_eq_true rfl) (by decide +kernel : decode cX4_init 47 = .ok (.new 9, 3)) (fun q47 => ?_)
  refine k_dup hF (by decide +kernel : decode cX4_init 50 = .ok (.dup, 1)) ?_
  refine k_callI hF lkIX4_36 2 rfl (kc_X2_init Y q47) (by decide +kernel : decode cX4_init 51 = .ok (.invokespecial 36, 3)) (by decide) (Nat.le_of_ble_eq_true rfl) (by rw [hR]; exact Nat.le_of_ble_eq_true rfl) (by rw [hR]; exact Nat.le_of_ble_eq_true rfl) (fun L51 h51 => ?_)
  obtain ⟨r51, rfl⟩ := h51
  refine k_mov 2 ?_
  simp only [List.take_succ_cons, List.take_zero, List.drop_succ_cons, List.drop_zero, List.set_cons_zero, List.set_cons_succ, List.cons_append, List.nil_append]
  refine k_putF hF (hnm.trans rfl) 0 rfl (T0 := TX4) (N := 8) (ci := 4) rfl 4 (by decide) (Tb_in (tin1 (List.mem_of_getElem? (i := 118) (by decide +kernel))) (by decide +kernel)) rfl rfl (ty := .object RX2) (by decide +kernel) rfl rfl (by simp) (by decide +kernel : decode cX4_init 54 = .ok (.putfield 37, 3)) ?_
  refine k_aload hF 0 (by decide +kernel : decode cX4_init 57 = .ok (.aload_n 0, 1)) rfl ?_
  refine k_new hF (ci := 2) (T0 := TX2) (N := 2) rfl tyX2 tyX2_ok (Tb_in (tin1 (List.mem_of_getElem? (i := 29) (by decide +kernel))) (by decide +kernel)) kin_X2 kini_X2 kdef_X2 (by rw [hR]; exact Nat.le_of_ble_eq_true rfl) (by rw [hR]; exact Nat.le_of_ble_eq_true rfl) (by decide +kernel : decode cX4_init 58 = .ok (.new 9, 3)) (fun q58 => ?_)
  refine k_dup hF (by decide +kernel : decode cX4_init 61 = .ok (.dup, 1)) ?_
  refine k_callI hF lkIX4_36 2 rfl (kc_X2_init Y q58) (by decide +kernel : decode cX4_init 62 = .ok (.invokespecial 36, 3)) (by decide) (Nat.le_of_ble_eq_true rfl) (by rw [hR]; exact Nat.le_of_ble_eq_true rfl) (by rw [hR]; exact Nat.le_of_ble_eq_true rfl) (fun L62 h62 => ?_)
  obtain ⟨r62, rfl⟩ := h62
  refine k_mov 2 ?_
  simp only [List.take_succ_cons, List.take_zero, List.drop_succ_cons, List.drop_zero, List.set_cons_zero, List.set_cons_succ, List.cons_append, List.nil_append]
  refine k_putF hF (hnm.trans rfl) 0 rfl (T0 := TX4) (N := 8) (ci := 4) rfl 5 (by decide) (Tb_in (tin1 (List.mem_of_getElem? (i := 119) (by decide +kernel))) (by decide +kernel)) rfl rfl (ty := .object RX2) (by decide +kernel) rfl rfl (by simp) (by decide +kernel : decode cX4_init 65 = .ok (.putfield 41, 3)) ?_
  refine k_aload hF 0 (by decide +kernel : decode cX4_init 68 = .ok (.aload_n 0, 1)) rfl ?_
  refine k_new hF (ci := 2) (T0 := TX2) (N := 2) rfl tyX2 tyX2_ok (Tb_in (tin1 (List.mem_of_getElem? (i := 29) (by decide +kernel))) (by decide +kernel)) kin_X2 kini_X2 kdef_X2 (by rw [hR]; exact Nat.le_of_ble_eq_true rfl) (by rw [hR]; exact Nat.le_of_ble_eq_true rfl) (by decide +kernel : decode cX4_init 69 = .ok (.new 9, 3)) (fun q69 => ?_)
  refine k_dup hF (by decide +kernel : decode cX4_init 72 = .ok (.dup, 1)) ?_
  refine k_callI hF lkIX4_36 2 rfl (kc_X2_init Y q69) (by decide +kernel : decode cX4_init 73 = .ok (.invokespecial 36, 3)) (by decide) (Nat.le_of_ble_eq_true rfl) (by rw [hR]; exact Nat.le_of_ble_eq_true rfl) (by rw [hR]; exact Nat.le_of_ble_eq_true rfl) (fun L73 h73 => ?_)
  obtain ⟨r73, rfl⟩ := h73
  refine k_mov 2 ?_
  simp only [List.take_succ_cons, List.take_zero, List.drop_succ_cons, List.drop_zero, List.set_cons_zero, List.set_cons_succ, List.cons_append, List.nil_append]
  refine k_putF hF (hnm.trans rfl) 0 rfl (T0 := TX4) (N := 8) (ci := 4) rfl 6 (by decide) (Tb_in (tin1 (List.mem_of_getElem? (i := 120) (by decide +kernel))) (by decide +kernel)) rfl rfl (ty := .object RX2) (by decide +kernel) rfl rfl (by simp) (by decide +kernel : decode cX4_init 76 = .ok (.putfield 44, 3)) ?_
  refine k_aload hF 0 (by decide +kernel : decode cX4_init 79 = .ok (.aload_n 0, 1)) rfl ?_
  refine k_sip hF (by decide +kernel : decode cX4_init 80 = .ok (.sipush 257, 3)) (by decide) ?_
  refine k_newarr hF (atype := .int) (ty := .int) rfl kac_int (257, .inl (fun _ => Int32.ofInt 0)) (N := 257) rfl (by decide) (fun _ => rfl) (by decide) (by rw [hR]; exact Nat.le_of_ble_eq_true rfl) (by rw [hR]; exact Nat.le_of_ble_eq_true rfl) (by decide +kernel : decode cX4_init 83 = .ok (.newarray .int, 2)) (fun q83 => ?_)
  refine k_putF hF (hnm.trans rfl) 0 rfl (T0 := TX4) (N := 8) (ci := 4) rfl 7 (by decide) (Tb_in (tin1 (List.mem_of_getElem? (i := 121) (by decide +kernel))) (by decide +kernel)) rfl rfl (ty := .array .int) (by decide +kernel) rfl rfl (by simp) (by decide +kernel : decode cX4_init 85 = .ok (.putfield 47, 3)) ?_
  refine k_ico hF (by decide +kernel : decode cX4_init 88 = .ok (.iconst 0, 1)) ?_
  refine k_istore hF (by decide +kernel : decode cX4_init 89 = .ok (.istore_n 1, 1)) (by decide) ?_
  have loop : ∀ (n i : Nat) (t u : Nat → Nat), i ≤ 8 → 9 ≤ i + n → kG F Y [(kc Y (.object RX2), .object RX2), (kc Y .int, .int), (kc Y .int, .int), (kc Y .boolean, .boolean), (kc Y .int, .int), (kc Y (.object RX2), .object RX2), (kc Y .int, .int), (kc Y .int, .int), (kc Y .int, .int), (kc Y .int, .int), (kc Y .int, .int), (kc Y .int, .int)] (((((((pre ++ rowC Y q14 a18 b18 c18 e18) ++ pastC Y q25 a29 b29 t29 u29) ++ walkC Y q36 r40) ++ tabC Y q47 r51) ++ tabC Y q58 r62) ++ tabC Y q69 r73) ++ tabs Y t u i) [(h, .inr (4, [.ref q7, .ref q14, .ref q25, .ref q36, .ref q47, .ref q58, .ref q69, .ref q83])), (q7, .inl (kc Y (.object RX2), 8, .inr (.inr (.inr (.inr (refs t i)))))), (q83, .inl (kc Y .int, 257, .inl (fun _ => Int32.ofInt 0)))] (34 + 2 * i) (3809 + 259 * i) 90 [(1, .int (Int32.ofInt (i : Int))), (0, .ref h)] [] := by
    intro n
    induction n with
    | zero => intro i t u h1 h2; exact absurd h2 (by omega)
    | succ n ih =>
      intro i t u h1 h2
      refine k_iload hF 0 (by decide +kernel : decode cX4_init 90 = .ok (.iload_n 1, 1)) rfl ?_
      refine k_bip hF (by decide +kernel : decode cX4_init 91 = .ok (.bipush 8, 2)) (by decide) ?_
      refine k_ge hF (tgt := 115) (by decide +kernel : decode cX4_init 93 = .ok (.if_icmp .ge 22, 3)) (by decide) (by omega) (by decide) (fun c => ?_) (fun c => ?_)
      · obtain rfl : i = 8 := by omega
        exact k_ret hF hQ hr (Nat.le_of_ble_eq_true rfl) (Nat.le_of_ble_eq_true rfl) (by intro q hq; exact hq) (by decide +kernel : decode cX4_init 115 = .ok (.return_, 1)) ⟨_, ⟨q7, q83, q14, a18, b18, c18, e18, q25, a29, b29, q36, r40, q47, r51, q58, r62, q69, r73, t29, u29, t, u, rfl⟩, by simp only [kwC, List.append_assoc]⟩
      · refine k_aload hF 1 (by decide +kernel : decode cX4_init 96 = .ok (.aload_n 0, 1)) rfl ?_
        refine k_get hF 0 rfl (T0 := TX4) (N := 8) (ci := 4) rfl 0 (by decide) (Tb_in (tin1 (List.mem_of_getElem? (i := 114) (by decide +kernel))) (by decide +kernel)) rfl (by decide +kernel : decode cX4_init 97 = .ok (.getfield 11, 3)) ?_
        refine k_iload hF 0 (by decide +kernel : decode cX4_init 100 = .ok (.iload_n 1, 1)) rfl ?_
        refine k_new hF (ci := 2) (T0 := TX2) (N := 2) rfl tyX2 tyX2_ok (Tb_in (tin1 (List.mem_of_getElem? (i := 29) (by decide +kernel))) (by decide +kernel)) kin_X2 kini_X2 kdef_X2 (by rw [hR]; show 34 + 2 * i + 1 ≤ 50; omega) (by rw [hR]; show 3809 + 259 * i + 2 ≤ 5881; omega) (by decide +kernel : decode cX4_init 101 = .ok (.new 9, 3)) (fun tq => ?_)
        refine k_dup hF (by decide +kernel : decode cX4_init 104 = .ok (.dup, 1)) ?_
        refine k_callI hF lkIX4_36 3 rfl (kc_X2_init Y tq) (by decide +kernel : decode cX4_init 105 = .ok (.invokespecial 36, 3)) (by decide) (Nat.le_of_ble_eq_true rfl) (by rw [hR]; show 34 + 2 * i + 1 + 1 ≤ 50; omega) (by rw [hR]; show 3809 + 259 * i + 2 + 257 ≤ 5881; omega) (fun L9 h9 => ?_)
        obtain ⟨uq, rfl⟩ := h9
        refine k_aast hF 1 0 3 rfl rfl rfl (z := (i : Int)) (by omega) (by omega) (by decide +kernel : decode cX4_init 108 = .ok (.aastore, 1)) ?_
        refine k_iinc hF 0 (by decide +kernel : decode cX4_init 109 = .ok (.iinc 1 1, 3)) rfl (by decide) ?_
        refine k_goto hF (tgt := 90) (by decide +kernel : decode cX4_init 112 = .ok (.goto (-22), 3)) (by decide) ?_
        refine k_mov 3 ?_
        refine k_T (T2 := [(kc Y (.object RX2), .object RX2), (kc Y .int, .int), (kc Y .int, .int), (kc Y .boolean, .boolean), (kc Y .int, .int), (kc Y (.object RX2), .object RX2), (kc Y .int, .int), (kc Y .int, .int), (kc Y .int, .int), (kc Y .int, .int), (kc Y .int, .int), (kc Y .int, .int)]) (fun q hq => List.mem_append_left _ hq) ?_
        simp only [List.take_succ_cons, List.take_zero, List.drop_succ_cons, List.drop_zero, List.set_cons_zero, List.set_cons_succ, List.cons_append, List.nil_append]
        refine k_n (k2 := 34 + 2 * (i + 1)) (n2 := 3809 + 259 * (i + 1)) (by omega) (by omega) ?_
        have e1 : tabs Y (fun k => if k = i then tq else t k) (fun k => if k = i then uq else u k) (i + 1) = tabs Y t u i ++ tabC Y tq uq := by
          show tabs Y (fun k => if k = i then tq else t k) (fun k => if k = i then uq else u k) i ++ tabC Y (if i = i then tq else t i) (if i = i then uq else u i) = _
          rw [if_pos rfl, if_pos rfl, tabs_congr (t2 := t) (u2 := u) i (fun k hk => ⟨if_neg (by omega), if_neg (by omega)⟩)]
        have h8 := ih (i + 1) (fun k => if k = i then tq else t k) (fun k => if k = i then uq else u k) (by omega) (by omega)
        rw [e1, ← refs_s, ← List.append_assoc] at h8
        exact h8
  have h8 := loop 9 0 (fun _ => 0) (fun _ => 0) (by omega) (by omega)
  rw [refs_0] at h8
  exact k_w (P2 := ((((((pre ++ rowC Y q14 a18 b18 c18 e18) ++ pastC Y q25 a29 b29 t29 u29) ++ walkC Y q36 r40) ++ tabC Y q47 r51) ++ tabC Y q58 r62) ++ tabC Y q69 r73) ++ []) (by rw [List.append_nil]; rfl) h8
def modC (Y : kX) (h a b c e f g l : Nat) : va_W := [(h, .inr (5, [.ref a, .ref b, .ref c, .ref e, .ref f, .int (Int32.ofInt 0), .ref g, .ref l, .int (Int32.ofInt 0), .int (Int32.ofInt 0), .int (Int32.ofInt 0)])), (a, .inl (kc Y .int, 2056, .inl (fun _ => Int32.ofInt (-2)))), (b, .inl (kc Y .int, 257, .inl (fun _ => Int32.ofInt 0))), (c, .inl (kc Y .int, 257, .inl (fun _ => Int32.ofInt 0))), (e, .inl (kc Y .int, 60, .inl (fun _ => Int32.ofInt 0))), (f, .inl (kc Y .int, 60, .inl (fun _ => Int32.ofInt 0))), (g, .inl (kc Y .int, 8, .inl (fun _ => Int32.ofInt 0))), (l, .inl (kc Y .int, 2056, .inl (fun _ => Int32.ofInt 0)))]
set_option maxHeartbeats 4000000 in
set_option maxRecDepth 100000 in
theorem kc_X5_init (Y : kX) (h : Nat) : KCon Y yX5_init cX5_init 2 2 7 4754 [.ref h] [] [(h, .inr (5, [.null, .null, .null, .null, .null, .int (Int32.ofInt 0), .null, .null, .int (Int32.ofInt 0), .int (Int32.ofInt 0), .int (Int32.ofInt 0)]))] [(kc Y .int, .int)] (fun L' => ∃ a b c e f g l : Nat, L' = modC Y h a b c e f g l) := by
  refine KCon.of (by decide) (Nat.le_of_ble_eq_true rfl) (fun pre F hF hQ hr hnm hR => ?_)
  refine k_aload hF 0 (by decide +kernel : decode cX5_init 0 = .ok (.aload_n 0, 1)) rfl ?_
  refine k_obj hF (Tb_in (tin5 (List.mem_of_getElem? (i := 0) (by decide +kernel))) (by decide +kernel)) koin koco (by decide) (by decide +kernel : decode cX5_init 1 = .ok (.invokespecial 1, 3)) ?_
  refine k_aload hF 0 (by decide +kernel : decode cX5_init 4 = .ok (.aload_n 0, 1)) rfl ?_
  refine k_sip hF (by decide +kernel : decode cX5_init 5 = .ok (.sipush 2056, 3)) (by decide) ?_
  refine k_newarr hF (atype := .int) (ty := .int) rfl kac_int (2056, .inl (fun _ => Int32.ofInt 0)) (N := 2056) rfl (by decide) (fun _ => rfl) (by decide) (by rw [hR]; exact Nat.le_of_ble_eq_true rfl) (by rw [hR]; exact Nat.le_of_ble_eq_true rfl) (by decide +kernel : decode cX5_init 8 = .ok (.newarray .int, 2)) (fun q8 => ?_)
  refine k_putF hF (hnm.trans rfl) 0 rfl (T0 := TX5) (N := 11) (ci := 5) rfl 0 (by decide) (Tb_in (tin5 (List.mem_of_getElem? (i := 1) (by decide +kernel))) (by decide +kernel)) rfl rfl (ty := .array .int) (by decide +kernel) rfl rfl (by simp) (by decide +kernel : decode cX5_init 10 = .ok (.putfield 7, 3)) ?_
  refine k_aload hF 0 (by decide +kernel : decode cX5_init 13 = .ok (.aload_n 0, 1)) rfl ?_
  refine k_sip hF (by decide +kernel : decode cX5_init 14 = .ok (.sipush 257, 3)) (by decide) ?_
  refine k_newarr hF (atype := .int) (ty := .int) rfl kac_int (257, .inl (fun _ => Int32.ofInt 0)) (N := 257) rfl (by decide) (fun _ => rfl) (by decide) (by rw [hR]; exact Nat.le_of_ble_eq_true rfl) (by rw [hR]; exact Nat.le_of_ble_eq_true rfl) (by decide +kernel : decode cX5_init 17 = .ok (.newarray .int, 2)) (fun q17 => ?_)
  refine k_putF hF (hnm.trans rfl) 0 rfl (T0 := TX5) (N := 11) (ci := 5) rfl 1 (by decide) (Tb_in (tin5 (List.mem_of_getElem? (i := 2) (by decide +kernel))) (by decide +kernel)) rfl rfl (ty := .array .int) (by decide +kernel) rfl rfl (by simp) (by decide +kernel : decode cX5_init 19 = .ok (.putfield 13, 3)) ?_
  refine k_aload hF 0 (by decide +kernel : decode cX5_init 22 = .ok (.aload_n 0, 1)) rfl ?_
  refine k_sip hF (by decide +kernel : decode cX5_init 23 = .ok (.sipush 257, 3)) (by decide) ?_
  refine k_newarr hF (atype := .int) (ty := .int) rfl kac_int (257, .inl (fun _ => Int32.ofInt 0)) (N := 257) rfl (by decide) (fun _ => rfl) (by decide) (by rw [hR]; exact Nat.le_of_ble_eq_true rfl) (by rw [hR]; exact Nat.le_of_ble_eq_true rfl) (by decide +kernel : decode cX5_init 26 = .ok (.newarray .int, 2)) (fun q26 => ?_)
  refine k_putF hF (hnm.trans rfl) 0 rfl (T0 := TX5) (N := 11) (ci := 5) rfl 2 (by decide) (Tb_in (tin5 (List.mem_of_getElem? (i := 3) (by decide +kernel))) (by decide +kernel)) rfl rfl (ty := .array .int) (by decide +kernel) rfl rfl (by simp) (by decide +kernel : decode cX5_init 28 = .ok (.putfield 16, 3)) ?_
  refine k_aload hF 0 (by decide +kernel : decode cX5_init 31 = .ok (.aload_n 0, 1)) rfl ?_
  refine k_bip hF (by decide +kernel : decode cX5_init 32 = .ok (.bipush 60, 2)) (by decide) ?_
  refine k_newarr hF (atype := .int) (ty := .int) rfl kac_int (60, .inl (fun _ => Int32.ofInt 0)) (N := 60) rfl (by decide) (fun _ => rfl) (by decide) (by rw [hR]; exact Nat.le_of_ble_eq_true rfl) (by rw [hR]; exact Nat.le_of_ble_eq_true rfl) (by decide +kernel : decode cX5_init 34 = .ok (.newarray .int, 2)) (fun q34 => ?_)
  refine k_putF hF (hnm.trans rfl) 0 rfl (T0 := TX5) (N := 11) (ci := 5) rfl 3 (by decide) (Tb_in (tin5 (List.mem_of_getElem? (i := 4) (by decide +kernel))) (by decide +kernel)) rfl rfl (ty := .array .int) (by decide +kernel) rfl rfl (by simp) (by decide +kernel : decode cX5_init 36 = .ok (.putfield 19, 3)) ?_
  refine k_aload hF 0 (by decide +kernel : decode cX5_init 39 = .ok (.aload_n 0, 1)) rfl ?_
  refine k_bip hF (by decide +kernel : decode cX5_init 40 = .ok (.bipush 60, 2)) (by decide) ?_
  refine k_newarr hF (atype := .int) (ty := .int) rfl kac_int (60, .inl (fun _ => Int32.ofInt 0)) (N := 60) rfl (by decide) (fun _ => rfl) (by decide) (by rw [hR]; exact Nat.le_of_ble_eq_true rfl) (by rw [hR]; exact Nat.le_of_ble_eq_true rfl) (by decide +kernel : decode cX5_init 42 = .ok (.newarray .int, 2)) (fun q42 => ?_)
  refine k_putF hF (hnm.trans rfl) 0 rfl (T0 := TX5) (N := 11) (ci := 5) rfl 4 (by decide) (Tb_in (tin5 (List.mem_of_getElem? (i := 5) (by decide +kernel))) (by decide +kernel)) rfl rfl (ty := .array .int) (by decide +kernel) rfl rfl (by simp) (by decide +kernel : decode cX5_init 44 = .ok (.putfield 22, 3)) ?_
  refine k_aload hF 0 (by decide +kernel : decode cX5_init 47 = .ok (.aload_n 0, 1)) rfl ?_
  refine k_bip hF (by decide +kernel : decode cX5_init 48 = .ok (.bipush 8, 2)) (by decide) ?_
  refine k_newarr hF (atype := .int) (ty := .int) rfl kac_int (8, .inl (fun _ => Int32.ofInt 0)) (N := 8) rfl (by decide) (fun _ => rfl) (by decide) (by rw [hR]; exact Nat.le_of_ble_eq_true rfl) (by rw [hR]; exact Nat.le_of_ble_eq_true rfl) (by decide +kernel : decode cX5_init 50 = .ok (.newarray .int, 2)) (fun q50 => ?_)
  refine k_putF hF (hnm.trans rfl) 0 rfl (T0 := TX5) (N := 11) (ci := 5) rfl 6 (by decide) (Tb_in (tin5 (List.mem_of_getElem? (i := 7) (by decide +kernel))) (by decide +kernel)) rfl rfl (ty := .array .int) (by decide +kernel) rfl rfl (by simp) (by decide +kernel : decode cX5_init 52 = .ok (.putfield 25, 3)) ?_
  refine k_aload hF 0 (by decide +kernel : decode cX5_init 55 = .ok (.aload_n 0, 1)) rfl ?_
  refine k_sip hF (by decide +kernel : decode cX5_init 56 = .ok (.sipush 2056, 3)) (by decide) ?_
  refine k_newarr hF (atype := .int) (ty := .int) rfl kac_int (2056, .inl (fun _ => Int32.ofInt 0)) (N := 2056) rfl (by decide) (fun _ => rfl) (by decide) (by rw [hR]; exact Nat.le_of_ble_eq_true rfl) (by rw [hR]; exact Nat.le_of_ble_eq_true rfl) (by decide +kernel : decode cX5_init 59 = .ok (.newarray .int, 2)) (fun q59 => ?_)
  refine k_putF hF (hnm.trans rfl) 0 rfl (T0 := TX5) (N := 11) (ci := 5) rfl 7 (by decide) (Tb_in (tin5 (List.mem_of_getElem? (i := 8) (by decide +kernel))) (by decide +kernel)) rfl rfl (ty := .array .int) (by decide +kernel) rfl rfl (by simp) (by decide +kernel : decode cX5_init 61 = .ok (.putfield 28, 3)) ?_
  refine k_ico hF (by decide +kernel : decode cX5_init 64 = .ok (.iconst 0, 1)) ?_
  refine k_istore hF (by decide +kernel : decode cX5_init 65 = .ok (.istore_n 1, 1)) (by decide) ?_
  have loop : ∀ (n i : Nat) (g : Nat → Int32), i ≤ 2056 → 2057 ≤ i + n → (∀ k : Nat, k < i → g k = Int32.ofInt (-2)) → kG F Y [(kc Y .int, .int), (kc Y .int, .int), (kc Y .int, .int), (kc Y .int, .int), (kc Y .int, .int), (kc Y .int, .int), (kc Y .int, .int)] pre [(h, .inr (5, [.ref q8, .ref q17, .ref q26, .ref q34, .ref q42, .int (Int32.ofInt 0), .ref q50, .ref q59, .int (Int32.ofInt 0), .int (Int32.ofInt 0), .int (Int32.ofInt 0)])), (q8, .inl (kc Y .int, 2056, .inl g)), (q17, .inl (kc Y .int, 257, .inl (fun _ => Int32.ofInt 0))), (q26, .inl (kc Y .int, 257, .inl (fun _ => Int32.ofInt 0))), (q34, .inl (kc Y .int, 60, .inl (fun _ => Int32.ofInt 0))), (q42, .inl (kc Y .int, 60, .inl (fun _ => Int32.ofInt 0))), (q50, .inl (kc Y .int, 8, .inl (fun _ => Int32.ofInt 0))), (q59, .inl (kc Y .int, 2056, .inl (fun _ => Int32.ofInt 0)))] 7 4754 66 [(1, .int (Int32.ofInt (i : Int))), (0, .ref h)] [] := by
    intro n
    induction n with
    | zero => intro i g h1 h2; exact absurd h2 (by omega)
    | succ n ih =>
      intro i g h1 h2 hg
      refine k_iload hF 0 (by decide +kernel : decode cX5_init 66 = .ok (.iload_n 1, 1)) rfl ?_
      refine k_sip hF (by decide +kernel : decode cX5_init 67 = .ok (.sipush 2056, 3)) (by decide) ?_
      refine k_ge hF (tgt := 87) (by decide +kernel : decode cX5_init 70 = .ok (.if_icmp .ge 17, 3)) (by decide) (by omega) (by decide) (fun c => ?_) (fun c => ?_)
      · refine k_ext 1 (fun _ => Int32.ofInt (-2)) rfl (fun k hk => hg k (by omega)) ?_
        exact k_ret hF hQ hr (Nat.le_refl _) (Nat.le_refl _) (by intro q hq; rw [List.mem_singleton] at hq; rw [hq]; exact kmem 0 rfl) (by decide +kernel : decode cX5_init 87 = .ok (.return_, 1)) ⟨_, ⟨q8, q17, q26, q34, q42, q50, q59, rfl⟩, rfl⟩
      · refine k_aload hF 1 (by decide +kernel : decode cX5_init 73 = .ok (.aload_n 0, 1)) rfl ?_
        refine k_get hF 0 rfl (T0 := TX5) (N := 11) (ci := 5) rfl 0 (by decide) (Tb_in (tin5 (List.mem_of_getElem? (i := 1) (by decide +kernel))) (by decide +kernel)) rfl (by decide +kernel : decode cX5_init 74 = .ok (.getfield 7, 3)) ?_
        refine k_iload hF 0 (by decide +kernel : decode cX5_init 77 = .ok (.iload_n 1, 1)) rfl ?_
        refine k_bip hF (by decide +kernel : decode cX5_init 78 = .ok (.bipush (-2), 2)) (by decide) ?_
        refine k_iast hF 1 0 rfl rfl (z := (i : Int)) (by omega) (by omega) (by decide +kernel : decode cX5_init 80 = .ok (.iastore, 1)) ?_
        refine k_iinc hF 0 (by decide +kernel : decode cX5_init 81 = .ok (.iinc 1 1, 3)) rfl (by decide) ?_
        refine k_goto hF (tgt := 66) (by decide +kernel : decode cX5_init 84 = .ok (.goto (-18), 3)) (by decide) ?_
        refine ih (i + 1) _ (by omega) (by omega) (fun k hk => ?_)
        unfold upd
        by_cases e : k = (i : Int).toNat
        · rw [if_pos e]
        · rw [if_neg e]
          exact hg k (by omega)
  exact loop 2057 0 (fun _ => Int32.ofInt 0) (by omega) (by omega) (fun k hk => absurd hk (by omega))

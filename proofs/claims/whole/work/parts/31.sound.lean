set_option maxHeartbeats 4000000 in
set_option maxRecDepth 100000 in
theorem c_X4_doAgree (X : jX) (hX : jxok X) (t : Nat) (ht : t < 19) (u : Nat) (hu : u < 19) (m : jM) (hm : tok m t) (hmu : tok m u) (h : eqR (m t) (m u)) : Con X yX4_doAgree cX4_doAgree 3 (some .boolean) 5 [vR 2 38, vR 1 t, vR 1 u] m (fun o m' => o = some (vI 1) ∧ ∃ G : Int → Int, m' = mrow m 50 G) := by
  refine Con.of hX (by decide) (Nat.le_of_ble_eq_true rfl) (fun F hF hQ => ?_)
  have hm1 := hm.1
  have hm2 := hmu.1
  have k1 : m (19 + t) 0 = m (19 + u) 0 := by rw [hm.2, hmu.2]; exact cnt_congr h
  have k2 := cnt_b (m t)
  have k3 : m (19 + t) 0 = cnt (m t) := hm.2
  have p1 := pairsN_b hm1
  have p2 : sumN (fun z => if m u z = -2 then 0 else jxor (mx0 (z - 1)) (mx0 (m u z))) 257 = sumN (fun z => if m t z = -2 then 0 else jxor (mx0 (z - 1)) (mx0 (m t z))) 257 := (pairsN_congr h).symm
  have p3 := keysN_b (m t)
  have p4 : sumN (fun z => if m u z = -2 then 0 else mx0 (z - 1)) 257 = sumN (fun z => if m t z = -2 then 0 else mx0 (z - 1)) 257 := (keysN_congr h).symm
  unfold pairsN at p1
  unfold keysN at p3
  have p5 : eqK (m t) (m u) := fun z h0 h1 => by rw [h z h0 h1]
  have p6 : eqV (m t) (m u) := fun z _ _ => mult_congr h _
  refine g_aload_n hF (by decide +kernel : decode cX4_doAgree 0 = .ok (.aload_n 1, 1)) rfl ?_
  refine g_tcnt hF lkX4_85 (by decide +kernel : decode cX4_doAgree 1 = .ok (.getfield 85, 3)) ht ?_
  refine g_aload_n hF (by decide +kernel : decode cX4_doAgree 4 = .ok (.aload_n 2, 1)) rfl ?_
  refine g_tcnt hF lkX4_85 (by decide +kernel : decode cX4_doAgree 5 = .ok (.getfield 85, 3)) hu ?_
  refine g_icmp_ne hF (tgt := 54) (by decide +kernel : decode cX4_doAgree 8 = .ok (.if_icmp .ne 46, 3)) (by decide) (by omega) (by omega) (fun c8 => ?_) (fun c8 => ?_)
  · skip
    exact absurd k1 c8
  · skip
    refine g_aload_n hF (by decide +kernel : decode cX4_doAgree 11 = .ok (.aload_n 1, 1)) rfl ?_
    refine g_callV hF lkX4_124 (c_X2_sumOfPairs X hX _ ht _ (by assumption)) (by decide +kernel : decode cX4_doAgree 12 = .ok (.invokevirtual 124, 3)) (by decide) rfl rfl rfl rfl ht (Nat.le_of_ble_eq_true rfl) (fun v12 m12 h12 => ?_)
    obtain ⟨rfl, e12⟩ := h12
    obtain rfl := e12.symm
    refine g_aload_n hF (by decide +kernel : decode cX4_doAgree 15 = .ok (.aload_n 2, 1)) rfl ?_
    refine g_callV hF lkX4_124 (c_X2_sumOfPairs X hX _ hu _ (by assumption)) (by decide +kernel : decode cX4_doAgree 16 = .ok (.invokevirtual 124, 3)) (by decide) rfl rfl rfl rfl hu (Nat.le_of_ble_eq_true rfl) (fun v16 m16 h16 => ?_)
    obtain ⟨rfl, e16⟩ := h16
    obtain rfl := e16.symm
    refine g_icmp_ne hF (tgt := 54) (by decide +kernel : decode cX4_doAgree 19 = .ok (.if_icmp .ne 35, 3)) (by decide) (by omega) (by omega) (fun c19 => ?_) (fun c19 => ?_)
    · skip
      exact absurd p2.symm c19
    · skip
      refine g_aload_n hF (by decide +kernel : decode cX4_doAgree 22 = .ok (.aload_n 1, 1)) rfl ?_
      refine g_callV hF lkX4_128 (c_X2_sumOfKeys X hX _ ht _ (by assumption)) (by decide +kernel : decode cX4_doAgree 23 = .ok (.invokevirtual 128, 3)) (by decide) rfl rfl rfl rfl ht (Nat.le_of_ble_eq_true rfl) (fun v23 m23 h23 => ?_)
      obtain ⟨rfl, e23⟩ := h23
      obtain rfl := e23.symm
      refine g_aload_n hF (by decide +kernel : decode cX4_doAgree 26 = .ok (.aload_n 2, 1)) rfl ?_
      refine g_callV hF lkX4_128 (c_X2_sumOfKeys X hX _ hu _ (by assumption)) (by decide +kernel : decode cX4_doAgree 27 = .ok (.invokevirtual 128, 3)) (by decide) rfl rfl rfl rfl hu (Nat.le_of_ble_eq_true rfl) (fun v27 m27 h27 => ?_)
      obtain ⟨rfl, e27⟩ := h27
      obtain rfl := e27.symm
      refine g_icmp_ne hF (tgt := 54) (by decide +kernel : decode cX4_doAgree 30 = .ok (.if_icmp .ne 24, 3)) (by decide) (by omega) (by omega) (fun c30 => ?_) (fun c30 => ?_)
      · skip
        exact absurd p4.symm c30
      · skip
        refine g_aload_n hF (by decide +kernel : decode cX4_doAgree 33 = .ok (.aload_n 1, 1)) rfl ?_
        refine g_aload_n hF (by decide +kernel : decode cX4_doAgree 34 = .ok (.aload_n 2, 1)) rfl ?_
        refine g_callV hF lkX4_117 (c_X2_matchesKeys X hX _ ht _ hu _ (by assumption) (by assumption)) (by decide +kernel : decode cX4_doAgree 35 = .ok (.invokevirtual 117, 3)) (by decide) rfl rfl rfl rfl ht (Nat.le_of_ble_eq_true rfl) (fun v35 m35 h35 => ?_)
        obtain ⟨rfl, e35⟩ := h35
        obtain rfl := e35.symm
        rw [bI_t p5]
        refine g_if_eq hF (tgt := 54) (by decide +kernel : decode cX4_doAgree 38 = .ok (.ifCond .eq 16, 3)) (by decide) (by omega) (fun c38 => ?_) (fun c38 => ?_)
        · skip
          exact absurd c38 (by decide)
        · skip
          refine g_aload_n hF (by decide +kernel : decode cX4_doAgree 41 = .ok (.aload_n 0, 1)) rfl ?_
          refine g_aload_n hF (by decide +kernel : decode cX4_doAgree 42 = .ok (.aload_n 1, 1)) rfl ?_
          refine g_aload_n hF (by decide +kernel : decode cX4_doAgree 43 = .ok (.aload_n 2, 1)) rfl ?_
          refine g_callV hF lkX4_120 (c_X4_matchValues X hX _ ht _ hu _ (by assumption) (by assumption)) (by decide +kernel : decode cX4_doAgree 44 = .ok (.invokevirtual 120, 3)) (by decide) rfl rfl rfl rfl jok38 (Nat.le_of_ble_eq_true rfl) (fun v44 m44 h44 => ?_)
          obtain ⟨rfl, G44, e44⟩ := h44
          obtain rfl := e44.symm
          rw [bI_t p6]
          refine g_if_eq hF (tgt := 54) (by decide +kernel : decode cX4_doAgree 47 = .ok (.ifCond .eq 7, 3)) (by decide) (by omega) (fun c47 => ?_) (fun c47 => ?_)
          · skip
            exact absurd c47 (by decide)
          · skip
            refine g_iconst hF (by decide +kernel : decode cX4_doAgree 50 = .ok (.iconst 1, 1)) ?_
            refine g_goto hF (tgt := 55) (by decide +kernel : decode cX4_doAgree 51 = .ok (.goto 4, 3)) (by decide) ?_
            refine g_zreturn hF hQ (by decide +kernel : decode cX4_doAgree 55 = .ok (.ireturn, 1)) (by first | exact Or.inl rfl | exact Or.inr rfl | omega) ?_
            exact ⟨rfl, G44, rfl⟩
set_option maxHeartbeats 4000000 in
set_option maxRecDepth 100000 in
theorem c_X4_areRemakesSame (X : jX) (hX : jxok X) (m : jM) (hC : CI m) : Con X yX4_areRemakesSame cX4_areRemakesSame 3 (some .boolean) 6 [vR 2 38] m (fun o m' => o = some (vI 1) ∧ CQ m m') := by
  refine Con.of hX (by decide) (Nat.le_of_ble_eq_true rfl) (fun F hF hQ => ?_)
  refine g_iconst hF (by decide +kernel : decode cX4_areRemakesSame 0 = .ok (.iconst 0, 1)) ?_
  refine g_istore_n hF (by decide +kernel : decode cX4_areRemakesSame 1 = .ok (.istore_n 1, 1)) (by decide) ?_
  have loop : ∀ (n s : Nat) (mm : jM), s ≤ 8 → 9 ≤ s + n → CQ m mm → jG F X mm 2 [(0, vR 2 38), (1, vI s)] [] := by
    intro n
    induction n with
    | zero => intro s mm h1 h2; exact absurd h2 (by omega)
    | succ n ih =>
      intro s mm h1 h2 qm
      have ih1 := ih
      refine g_iload_n hF (by decide +kernel : decode cX4_areRemakesSame 2 = .ok (.iload_n 1, 1)) rfl ?_
      refine g_bipush hF (by decide +kernel : decode cX4_areRemakesSame 3 = .ok (.bipush 8, 2)) (by decide) ?_
      refine g_icmp_ge hF (tgt := 89) (by decide +kernel : decode cX4_areRemakesSame 5 = .ok (.if_icmp .ge 84, 3)) (by decide) (by omega) (by omega) (fun c5 => ?_) (fun c5 => ?_)
      · skip
        refine g_iconst hF (by decide +kernel : decode cX4_areRemakesSame 89 = .ok (.iconst 1, 1)) ?_
        refine g_zreturn hF hQ (by decide +kernel : decode cX4_areRemakesSame 90 = .ok (.ireturn, 1)) (by first | exact Or.inl rfl | exact Or.inr rfl | omega) ?_
        exact ⟨rfl, qm⟩
      · skip
        refine g_aload_n hF (by decide +kernel : decode cX4_areRemakesSame 8 = .ok (.aload_n 0, 1)) rfl ?_
        refine g_getC hF lkX4_37 (by decide +kernel : decode cX4_areRemakesSame 9 = .ok (.getfield 37, 3)) jok38 rfl rfl ?_
        refine g_callV hF lkX4_89 (c_X2_wipe X hX _ ht16 _) (by decide +kernel : decode cX4_areRemakesSame 12 = .ok (.invokevirtual 89, 3)) (by decide) rfl rfl rfl rfl ht16 (Nat.le_of_ble_eq_true rfl) (fun v12 m12 h12 => ?_)
        obtain ⟨rfl, e12⟩ := h12
        have q12 : CQ m m12 := by rw [e12]; exact CQ_trans qm (CQ_tset qm.1 (by omega) (by omega) rowok_none)
        have r12 : m12 16 = fun _ => -2 := by rw [e12, tset_at]
        refine g_sipush hF (by decide +kernel : decode cX4_areRemakesSame 15 = .ok (.sipush 255, 3)) (by decide) ?_
        refine g_istore_n hF (by decide +kernel : decode cX4_areRemakesSame 18 = .ok (.istore_n 2, 1)) (by decide) ?_
        have loop2 : ∀ (n i : Nat) (k : Int) (m2 : jM), i ≤ 257 → i < n → k = i - 1 - 1 → CQ m m2 → (∀ z : Int, i ≤ z → z < 257 → m2 16 z = m2 s z) → (∀ z : Int, 0 ≤ z → z < i → m2 16 z = -2) → jG F X m2 19 [(0, vR 2 38), (1, vI s), (2, vI k)] [] := by
          intro n
          induction n with
          | zero => intro i k m2 h1 h2; exact absurd h2 (by omega)
          | succ n ih =>
            intro i k m2 h11 h12 hk q2 ha hb
            refine g_iload_n hF (by decide +kernel : decode cX4_areRemakesSame 19 = .ok (.iload_n 2, 1)) rfl ?_
            refine g_iconst hF (by decide +kernel : decode cX4_areRemakesSame 20 = .ok (.iconst (-1), 1)) ?_
            refine g_icmp_lt hF (tgt := 48) (by decide +kernel : decode cX4_areRemakesSame 21 = .ok (.if_icmp .lt 27, 3)) (by decide) (by omega) (by omega) (fun c21 => ?_) (fun c21 => ?_)
            · skip
              refine g_aload_n hF (by decide +kernel : decode cX4_areRemakesSame 48 = .ok (.aload_n 0, 1)) rfl ?_
              refine g_getC hF lkX4_37 (by decide +kernel : decode cX4_areRemakesSame 49 = .ok (.getfield 37, 3)) jok38 rfl rfl ?_
              refine g_aload_n hF (by decide +kernel : decode cX4_areRemakesSame 52 = .ok (.aload_n 0, 1)) rfl ?_
              refine g_getC hF lkX4_11 (by decide +kernel : decode cX4_areRemakesSame 53 = .ok (.getfield 11, 3)) jok38 rfl rfl ?_
              refine g_iload_n hF (by decide +kernel : decode cX4_areRemakesSame 56 = .ok (.iload_n 1, 1)) rfl ?_
              refine g_aaload_39 hF (by decide +kernel : decode cX4_areRemakesSame 57 = .ok (.aaload, 1)) (rfl) (show s < 8 by omega) ?_
              refine g_callV hF lkX4_113 (c_X2_matches X hX _ ht16 _ (show s < 19 by omega) _ (q2.1.1 16 (by omega)).1 (q2.1.1 s (by omega)).1) (by decide +kernel : decode cX4_areRemakesSame 58 = .ok (.invokevirtual 113, 3)) (by decide) rfl rfl rfl rfl ht16 (Nat.le_of_ble_eq_true rfl) (fun v58 m58 h58 => ?_)
              obtain ⟨rfl, e58⟩ := h58
              obtain rfl := e58.symm
              have eq : eqR (m2 16) (m2 s) := fun z h8 h9 => ha z (by omega) h9
              rw [bI_t eq]
              refine g_if_eq hF (tgt := 81) (by decide +kernel : decode cX4_areRemakesSame 61 = .ok (.ifCond .eq 20, 3)) (by decide) (by omega) (fun c61 => ?_) (fun c61 => ?_)
              · skip
                exact absurd c61 (by decide)
              · skip
                refine g_aload_n hF (by decide +kernel : decode cX4_areRemakesSame 64 = .ok (.aload_n 0, 1)) rfl ?_
                refine g_aload_n hF (by decide +kernel : decode cX4_areRemakesSame 65 = .ok (.aload_n 0, 1)) rfl ?_
                refine g_getC hF lkX4_37 (by decide +kernel : decode cX4_areRemakesSame 66 = .ok (.getfield 37, 3)) jok38 rfl rfl ?_
                refine g_aload_n hF (by decide +kernel : decode cX4_areRemakesSame 69 = .ok (.aload_n 0, 1)) rfl ?_
                refine g_getC hF lkX4_11 (by decide +kernel : decode cX4_areRemakesSame 70 = .ok (.getfield 11, 3)) jok38 rfl rfl ?_
                refine g_iload_n hF (by decide +kernel : decode cX4_areRemakesSame 73 = .ok (.iload_n 1, 1)) rfl ?_
                refine g_aaload_39 hF (by decide +kernel : decode cX4_areRemakesSame 74 = .ok (.aaload, 1)) (rfl) (show s < 8 by omega) ?_
                refine g_callV hF lkX4_327 (c_X4_doAgree X hX _ ht16 _ (show s < 19 by omega) _ (q2.1.1 16 (by omega)) (q2.1.1 s (by omega)) eq) (by decide +kernel : decode cX4_areRemakesSame 75 = .ok (.invokevirtual 327, 3)) (by decide) rfl rfl rfl rfl jok38 (Nat.le_of_ble_eq_true rfl) (fun v75 m75 h75 => ?_)
                obtain ⟨rfl, G75, e75⟩ := h75
                have q75 : CQ m m75 := by rw [e75]; exact CQ_trans q2 (CQ_row q2.1 (by unfold garb; omega) (by omega) G75)
                refine g_if_ne hF (tgt := 83) (by decide +kernel : decode cX4_areRemakesSame 78 = .ok (.ifCond .ne 5, 3)) (by decide) (by omega) (fun c78 => ?_) (fun c78 => ?_)
                · skip
                  refine g_iinc hF (by decide +kernel : decode cX4_areRemakesSame 83 = .ok (.iinc 1 1, 3)) rfl (by decide) ?_
                  refine g_goto hF (tgt := 2) (by decide +kernel : decode cX4_areRemakesSame 86 = .ok (.goto (-84), 3)) (by decide) ?_
                  refine g_take 2 ?_
                  exact ih1 (s + 1) m75 (by omega) (by omega) q75
                · skip
                  exact absurd c78 (by decide)
            · skip
              refine g_aload_n hF (by decide +kernel : decode cX4_areRemakesSame 24 = .ok (.aload_n 0, 1)) rfl ?_
              refine g_getC hF lkX4_37 (by decide +kernel : decode cX4_areRemakesSame 25 = .ok (.getfield 37, 3)) jok38 rfl rfl ?_
              refine g_iload_n hF (by decide +kernel : decode cX4_areRemakesSame 28 = .ok (.iload_n 2, 1)) rfl ?_
              refine g_aload_n hF (by decide +kernel : decode cX4_areRemakesSame 29 = .ok (.aload_n 0, 1)) rfl ?_
              refine g_getC hF lkX4_11 (by decide +kernel : decode cX4_areRemakesSame 30 = .ok (.getfield 11, 3)) jok38 rfl rfl ?_
              refine g_iload_n hF (by decide +kernel : decode cX4_areRemakesSame 33 = .ok (.iload_n 1, 1)) rfl ?_
              refine g_aaload_39 hF (by decide +kernel : decode cX4_areRemakesSame 34 = .ok (.aaload, 1)) (rfl) (show s < 8 by omega) ?_
              refine g_iload_n hF (by decide +kernel : decode cX4_areRemakesSame 35 = .ok (.iload_n 2, 1)) rfl ?_
              refine g_callV hF lkX4_62 (c_X2_at X hX _ (show s < 19 by omega) _ (by omega) _) (by decide +kernel : decode cX4_areRemakesSame 36 = .ok (.invokevirtual 62, 3)) (by decide) rfl rfl rfl rfl (show s < 19 by omega) (Nat.le_of_ble_eq_true rfl) (fun v36 m36 h36 => ?_)
              obtain ⟨rfl, e36⟩ := h36
              obtain rfl := e36.symm
              have b36 := tat_b (q2.1.1 s (by omega)).1 k
              have t16 := q2.1.1 16 (by omega)
              refine g_callV hF lkX4_66 (c_X2_mark X hX _ ht16 _ _ (by omega) (by omega) _ (by assumption)) (by decide +kernel : decode cX4_areRemakesSame 39 = .ok (.invokevirtual 66, 3)) (by decide) rfl rfl rfl rfl ht16 (Nat.le_of_ble_eq_true rfl) (fun v39 m39 h39 => ?_)
              obtain ⟨rfl, e39⟩ := h39
              have q39 : CQ m m39 := by rw [e39]; exact CQ_trans q2 (CQ_tset q2.1 (by omega) (by omega) (fmark_ok t16.1 b36))
              have r39 : m39 16 = fmark (m2 16) k (tat (m2 s) k) := by rw [e39, tset_at]
              have s39 : m39 s = m2 s := by rw [e39]; exact tset_ne (by omega) (by omega)
              refine g_iinc hF (by decide +kernel : decode cX4_areRemakesSame 42 = .ok (.iinc 2 (-1), 3)) rfl (by decide) ?_
              refine g_goto hF (tgt := 19) (by decide +kernel : decode cX4_areRemakesSame 45 = .ok (.goto (-26), 3)) (by decide) ?_
              exact ih (i - 1) _ m39 (by omega) (by omega) (by omega) q39 (fun z h8 h9 => by
                rw [r39, s39]
                unfold fmark
                rw [if_pos (by omega)]
                by_cases e : z = k + 1
                · rw [if_pos e, e]; exact tat_in ⟨by omega, by omega⟩
                · rw [if_neg e]; exact ha z (by omega) h9) (fun z h8 h9 => by
                rw [r39]
                unfold fmark
                rw [if_pos (by omega), if_neg (by omega)]
                exact hb z h8 (by omega))
        exact loop2 258 257 _ m12 (by omega) (by omega) (by omega) q12 (fun z h8 h9 => absurd h9 (by omega)) (fun z h8 h9 => by rw [r12])
  exact loop 9 0 m (by omega) (by omega) (CQ_rfl hC)
set_option maxHeartbeats 4000000 in
set_option maxRecDepth 100000 in
theorem c_X4_isRowLikeItsLastWords (X : jX) (hX : jxok X) (m : jM) (hC : CI m) : Con X yX4_isRowLikeItsLastWords cX4_isRowLikeItsLastWords 1 (some .boolean) 6 [vR 2 38] m (fun o m' => o = some (vI 1) ∧ CQ m m') := by
  refine Con.of hX (by decide) (Nat.le_of_ble_eq_true rfl) (fun F hF hQ => ?_)
  obtain ⟨w, hw⟩ := hC.2.1
  have hl := lastCount_le (m 41) w
  have hw60 := hw.2.1
  refine g_aload_n hF (by decide +kernel : decode cX4_isRowLikeItsLastWords 0 = .ok (.aload_n 0, 1)) rfl ?_
  refine g_getC hF lkX4_18 (by decide +kernel : decode cX4_isRowLikeItsLastWords 1 = .ok (.getfield 18, 3)) jok38 rfl rfl ?_
  refine g_aload_n hF (by decide +kernel : decode cX4_isRowLikeItsLastWords 4 = .ok (.aload_n 0, 1)) rfl ?_
  refine g_getC hF lkX4_37 (by decide +kernel : decode cX4_isRowLikeItsLastWords 5 = .ok (.getfield 37, 3)) jok38 rfl rfl ?_
  refine g_callV hF lkX4_208 (c_X1_doAll X hX _ ht16 _ _ (by assumption)) (by decide +kernel : decode cX4_isRowLikeItsLastWords 8 = .ok (.invokevirtual 208, 3)) (by decide) rfl rfl rfl rfl jok40 (Nat.le_of_ble_eq_true rfl) (fun v8 m8 h8 => ?_)
  obtain ⟨rfl, e8⟩ := h8
  have q8 : CQ m m8 := by rw [e8]; exact CQ_tset hC (by omega) (by omega) (playN_ok w (fun z h0 h1 => (hw.2.2 z h0 h1).2))
  have hw8 : rwok m8 w := by unfold rwok; rw [e8, tset_ne (i := 40) (by omega) (by omega), tset_ne (i := 41) (by omega) (by omega), tset_ne (i := 42) (by omega) (by omega)]; exact hw
  have g8 : m8 41 = m 41 ∧ m8 42 = m 42 := by rw [e8, tset_ne (i := 41) (by omega) (by omega), tset_ne (i := 42) (by omega) (by omega)]; exact ⟨rfl, rfl⟩
  have d8 : m8 16 = playN (m 41) (m 42) w := by rw [e8, tset_at]
  refine g_aload_n hF (by decide +kernel : decode cX4_isRowLikeItsLastWords 11 = .ok (.aload_n 0, 1)) rfl ?_
  refine g_getC hF lkX4_18 (by decide +kernel : decode cX4_isRowLikeItsLastWords 12 = .ok (.getfield 18, 3)) jok38 rfl rfl ?_
  refine g_aload_n hF (by decide +kernel : decode cX4_isRowLikeItsLastWords 15 = .ok (.aload_n 0, 1)) rfl ?_
  refine g_getC hF lkX4_41 (by decide +kernel : decode cX4_isRowLikeItsLastWords 16 = .ok (.getfield 41, 3)) jok38 rfl rfl ?_
  refine g_iconst hF (by decide +kernel : decode cX4_isRowLikeItsLastWords 19 = .ok (.iconst 0, 1)) ?_
  refine g_callV hF lkX4_211 (c_X1_doLast X hX _ ht17 _ (by omega) _ _ (by assumption)) (by decide +kernel : decode cX4_isRowLikeItsLastWords 20 = .ok (.invokevirtual 211, 3)) (by decide) rfl rfl rfl rfl jok40 (Nat.le_of_ble_eq_true rfl) (fun v20 m20 h20 => ?_)
  obtain ⟨rfl, fr20, tk20, eq20⟩ := h20
  have q20 : CQ m m20 := CQ_trans q8 (CQ_of q8.1 (fun j hj => fr20 j (fun q => hj (by unfold garb; omega)) (fun q => hj (by unfold garb; omega)) (fun q => hj (by unfold garb; omega)) (fun q => hj (by unfold garb; omega))) (fun u u1 u2 => by
    by_cases e : u = 17
    · rw [e]; exact tk20
    · unfold tok; rw [fr20 u e (by omega) (by omega) (by omega), fr20 (19 + u) (by omega) (by omega) (by omega) (by omega)]; exact q8.1.1 u (by omega)))
  have hw20 : rwok m20 w := by unfold rwok; rw [fr20 40 (by omega) (by omega) (by omega) (by omega), fr20 41 (by omega) (by omega) (by omega) (by omega), fr20 42 (by omega) (by omega) (by omega) (by omega)]; exact hw8
  have g20 : m20 41 = m 41 ∧ m20 42 = m 42 := ⟨by rw [fr20 41 (by omega) (by omega) (by omega) (by omega)]; exact g8.1, by rw [fr20 42 (by omega) (by omega) (by omega) (by omega)]; exact g8.2⟩
  rw [g8.1, g8.2] at eq20
  have d20 : m20 16 = playN (m 41) (m 42) w := by rw [fr20 16 (by omega) (by omega) (by omega) (by omega)]; exact d8
  refine g_aload_n hF (by decide +kernel : decode cX4_isRowLikeItsLastWords 23 = .ok (.aload_n 0, 1)) rfl ?_
  refine g_getC hF lkX4_18 (by decide +kernel : decode cX4_isRowLikeItsLastWords 24 = .ok (.getfield 18, 3)) jok38 rfl rfl ?_
  refine g_aload_n hF (by decide +kernel : decode cX4_isRowLikeItsLastWords 27 = .ok (.aload_n 0, 1)) rfl ?_
  refine g_getC hF lkX4_44 (by decide +kernel : decode cX4_isRowLikeItsLastWords 28 = .ok (.getfield 44, 3)) jok38 rfl rfl ?_
  refine g_iconst hF (by decide +kernel : decode cX4_isRowLikeItsLastWords 31 = .ok (.iconst 1, 1)) ?_
  refine g_callV hF lkX4_211 (c_X1_doLast X hX _ ht18 _ (by omega) _ _ (by assumption)) (by decide +kernel : decode cX4_isRowLikeItsLastWords 32 = .ok (.invokevirtual 211, 3)) (by decide) rfl rfl rfl rfl jok40 (Nat.le_of_ble_eq_true rfl) (fun v32 m32 h32 => ?_)
  obtain ⟨rfl, fr32, tk32, eq32⟩ := h32
  have q32 : CQ m m32 := CQ_trans q20 (CQ_of q20.1 (fun j hj => fr32 j (fun q => hj (by unfold garb; omega)) (fun q => hj (by unfold garb; omega)) (fun q => hj (by unfold garb; omega)) (fun q => hj (by unfold garb; omega))) (fun u u1 u2 => by
    by_cases e : u = 18
    · rw [e]; exact tk32
    · unfold tok; rw [fr32 u e (by omega) (by omega) (by omega), fr32 (19 + u) (by omega) (by omega) (by omega) (by omega)]; exact q20.1.1 u (by omega)))
  have hw32 : rwok m32 w := by unfold rwok; rw [fr32 40 (by omega) (by omega) (by omega) (by omega), fr32 41 (by omega) (by omega) (by omega) (by omega), fr32 42 (by omega) (by omega) (by omega) (by omega)]; exact hw20
  have g32 : m32 41 = m 41 ∧ m32 42 = m 42 := ⟨by rw [fr32 41 (by omega) (by omega) (by omega) (by omega)]; exact g20.1, by rw [fr32 42 (by omega) (by omega) (by omega) (by omega)]; exact g20.2⟩
  rw [g20.1, g20.2] at eq32
  have d32 : m32 16 = playN (m 41) (m 42) w := by rw [fr32 16 (by omega) (by omega) (by omega) (by omega)]; exact d20
  have f32 : m32 17 = m20 17 := fr32 17 (by omega) (by omega) (by omega) (by omega)
  have a32 : eqR (m32 16) (m32 17) := by rw [d32, f32]; exact eqR_symm eq20
  have b32 : eqR (m32 16) (m32 18) := by rw [d32]; exact eqR_symm eq32
  refine g_aload_n hF (by decide +kernel : decode cX4_isRowLikeItsLastWords 35 = .ok (.aload_n 0, 1)) rfl ?_
  refine g_getC hF lkX4_37 (by decide +kernel : decode cX4_isRowLikeItsLastWords 36 = .ok (.getfield 37, 3)) jok38 rfl rfl ?_
  refine g_aload_n hF (by decide +kernel : decode cX4_isRowLikeItsLastWords 39 = .ok (.aload_n 0, 1)) rfl ?_
  refine g_getC hF lkX4_41 (by decide +kernel : decode cX4_isRowLikeItsLastWords 40 = .ok (.getfield 41, 3)) jok38 rfl rfl ?_
  refine g_callV hF lkX4_113 (c_X2_matches X hX _ ht16 _ ht17 _ (q32.1.1 16 (by omega)).1 (q32.1.1 17 (by omega)).1) (by decide +kernel : decode cX4_isRowLikeItsLastWords 43 = .ok (.invokevirtual 113, 3)) (by decide) rfl rfl rfl rfl ht16 (Nat.le_of_ble_eq_true rfl) (fun v43 m43 h43 => ?_)
  obtain ⟨rfl, e43⟩ := h43
  obtain rfl := e43.symm
  rw [bI_t a32]
  refine g_if_eq hF (tgt := 84) (by decide +kernel : decode cX4_isRowLikeItsLastWords 46 = .ok (.ifCond .eq 38, 3)) (by decide) (by omega) (fun c46 => ?_) (fun c46 => ?_)
  · skip
    exact absurd c46 (by decide)
  · skip
    refine g_aload_n hF (by decide +kernel : decode cX4_isRowLikeItsLastWords 49 = .ok (.aload_n 0, 1)) rfl ?_
    refine g_getC hF lkX4_37 (by decide +kernel : decode cX4_isRowLikeItsLastWords 50 = .ok (.getfield 37, 3)) jok38 rfl rfl ?_
    refine g_aload_n hF (by decide +kernel : decode cX4_isRowLikeItsLastWords 53 = .ok (.aload_n 0, 1)) rfl ?_
    refine g_getC hF lkX4_44 (by decide +kernel : decode cX4_isRowLikeItsLastWords 54 = .ok (.getfield 44, 3)) jok38 rfl rfl ?_
    refine g_callV hF lkX4_113 (c_X2_matches X hX _ ht16 _ ht18 _ (q32.1.1 16 (by omega)).1 (q32.1.1 18 (by omega)).1) (by decide +kernel : decode cX4_isRowLikeItsLastWords 57 = .ok (.invokevirtual 113, 3)) (by decide) rfl rfl rfl rfl ht16 (Nat.le_of_ble_eq_true rfl) (fun v57 m57 h57 => ?_)
    obtain ⟨rfl, e57⟩ := h57
    obtain rfl := e57.symm
    rw [bI_t b32]
    refine g_if_eq hF (tgt := 84) (by decide +kernel : decode cX4_isRowLikeItsLastWords 60 = .ok (.ifCond .eq 24, 3)) (by decide) (by omega) (fun c60 => ?_) (fun c60 => ?_)
    · skip
      exact absurd c60 (by decide)
    · skip
      refine g_aload_n hF (by decide +kernel : decode cX4_isRowLikeItsLastWords 63 = .ok (.aload_n 0, 1)) rfl ?_
      refine g_getC hF lkX4_18 (by decide +kernel : decode cX4_isRowLikeItsLastWords 64 = .ok (.getfield 18, 3)) jok38 rfl rfl ?_
      refine g_callV hF lkX4_215 (c_X1_countLast X hX _ _ (by assumption)) (by decide +kernel : decode cX4_isRowLikeItsLastWords 67 = .ok (.invokevirtual 215, 3)) (by decide) rfl rfl rfl rfl jok40 (Nat.le_of_ble_eq_true rfl) (fun v67 m67 h67 => ?_)
      obtain ⟨rfl, fr67⟩ := h67
      rw [g32.1]
      have q67 : CQ m m67 := CQ_trans q32 (CQ_of q32.1 (fun j hj => fr67 j (fun q => hj (by unfold garb; omega))) (fun u u1 u2 => by unfold tok; rw [fr67 u (by omega), fr67 (19 + u) (by omega)]; exact q32.1.1 u (by omega)))
      have w67 : m67 40 0 = w := by rw [fr67 40 (by omega)]; exact hw32.1
      refine g_aload_n hF (by decide +kernel : decode cX4_isRowLikeItsLastWords 70 = .ok (.aload_n 0, 1)) rfl ?_
      refine g_getC hF lkX4_18 (by decide +kernel : decode cX4_isRowLikeItsLastWords 71 = .ok (.getfield 18, 3)) jok38 rfl rfl ?_
      refine g_getC hF lkX4_203 (by decide +kernel : decode cX4_isRowLikeItsLastWords 74 = .ok (.getfield 203, 3)) jok40 rfl rfl ?_
      refine g_icmp_gt hF (tgt := 84) (by decide +kernel : decode cX4_isRowLikeItsLastWords 77 = .ok (.if_icmp .gt 7, 3)) (by decide) (by omega) (by omega) (fun c77 => ?_) (fun c77 => ?_)
      · skip
        exact absurd c77 (by omega)
      · skip
        refine g_iconst hF (by decide +kernel : decode cX4_isRowLikeItsLastWords 80 = .ok (.iconst 1, 1)) ?_
        refine g_goto hF (tgt := 85) (by decide +kernel : decode cX4_isRowLikeItsLastWords 81 = .ok (.goto 4, 3)) (by decide) ?_
        refine g_zreturn hF hQ (by decide +kernel : decode cX4_isRowLikeItsLastWords 85 = .ok (.ireturn, 1)) (by first | exact Or.inl rfl | exact Or.inr rfl | omega) ?_
        exact ⟨rfl, q67⟩
set_option maxHeartbeats 4000000 in
set_option maxRecDepth 100000 in
theorem c_X4_doEqualsAgree (X : jX) (hX : jxok X) (m : jM) (hC : CI m) : Con X yX4_doEqualsAgree cX4_doEqualsAgree 3 (some .boolean) 6 [vR 2 38] m (fun o m' => o = some (vI 1) ∧ CQ m m') := by
  refine Con.of hX (by decide) (Nat.le_of_ble_eq_true rfl) (fun F hF hQ => ?_)
  refine g_iconst hF (by decide +kernel : decode cX4_doEqualsAgree 0 = .ok (.iconst 0, 1)) ?_
  refine g_istore_n hF (by decide +kernel : decode cX4_doEqualsAgree 1 = .ok (.istore_n 1, 1)) (by decide) ?_
  have loop : ∀ (n s : Nat) (mm : jM), s ≤ 8 → 9 ≤ s + n → CQ m mm → jG F X mm 2 [(0, vR 2 38), (1, vI s)] [] := by
    intro n
    induction n with
    | zero => intro s mm h1 h2; exact absurd h2 (by omega)
    | succ n ih =>
      intro s mm h1 h2 qm
      have ih1 := ih
      refine g_iload_n hF (by decide +kernel : decode cX4_doEqualsAgree 2 = .ok (.iload_n 1, 1)) rfl ?_
      refine g_bipush hF (by decide +kernel : decode cX4_doEqualsAgree 3 = .ok (.bipush 8, 2)) (by decide) ?_
      refine g_icmp_ge hF (tgt := 66) (by decide +kernel : decode cX4_doEqualsAgree 5 = .ok (.if_icmp .ge 61, 3)) (by decide) (by omega) (by omega) (fun c5 => ?_) (fun c5 => ?_)
      · skip
        refine g_iconst hF (by decide +kernel : decode cX4_doEqualsAgree 66 = .ok (.iconst 1, 1)) ?_
        refine g_zreturn hF hQ (by decide +kernel : decode cX4_doEqualsAgree 67 = .ok (.ireturn, 1)) (by first | exact Or.inl rfl | exact Or.inr rfl | omega) ?_
        exact ⟨rfl, qm⟩
      · skip
        refine g_iconst hF (by decide +kernel : decode cX4_doEqualsAgree 8 = .ok (.iconst 0, 1)) ?_
        refine g_istore_n hF (by decide +kernel : decode cX4_doEqualsAgree 9 = .ok (.istore_n 2, 1)) (by decide) ?_
        have loop2 : ∀ (n u : Nat) (m2 : jM), u ≤ s → s + 1 ≤ u + n → CQ m m2 → jG F X m2 10 [(0, vR 2 38), (1, vI s), (2, vI u)] [] := by
          intro n
          induction n with
          | zero => intro u m2 h1 h2; exact absurd h2 (by omega)
          | succ n ih =>
            intro u m2 h11 h12 q2
            refine g_iload_n hF (by decide +kernel : decode cX4_doEqualsAgree 10 = .ok (.iload_n 2, 1)) rfl ?_
            refine g_iload_n hF (by decide +kernel : decode cX4_doEqualsAgree 11 = .ok (.iload_n 1, 1)) rfl ?_
            refine g_icmp_ge hF (tgt := 60) (by decide +kernel : decode cX4_doEqualsAgree 12 = .ok (.if_icmp .ge 48, 3)) (by decide) (by omega) (by omega) (fun c12 => ?_) (fun c12 => ?_)
            · skip
              refine g_iinc hF (by decide +kernel : decode cX4_doEqualsAgree 60 = .ok (.iinc 1 1, 3)) rfl (by decide) ?_
              refine g_goto hF (tgt := 2) (by decide +kernel : decode cX4_doEqualsAgree 63 = .ok (.goto (-61), 3)) (by decide) ?_
              refine g_take 2 ?_
              exact ih1 (s + 1) m2 (by omega) (by omega) q2
            · skip
              refine g_aload_n hF (by decide +kernel : decode cX4_doEqualsAgree 15 = .ok (.aload_n 0, 1)) rfl ?_
              refine g_getC hF lkX4_11 (by decide +kernel : decode cX4_doEqualsAgree 16 = .ok (.getfield 11, 3)) jok38 rfl rfl ?_
              refine g_iload_n hF (by decide +kernel : decode cX4_doEqualsAgree 19 = .ok (.iload_n 1, 1)) rfl ?_
              refine g_aaload_39 hF (by decide +kernel : decode cX4_doEqualsAgree 20 = .ok (.aaload, 1)) (rfl) (show s < 8 by omega) ?_
              refine g_aload_n hF (by decide +kernel : decode cX4_doEqualsAgree 21 = .ok (.aload_n 0, 1)) rfl ?_
              refine g_getC hF lkX4_11 (by decide +kernel : decode cX4_doEqualsAgree 22 = .ok (.getfield 11, 3)) jok38 rfl rfl ?_
              refine g_iload_n hF (by decide +kernel : decode cX4_doEqualsAgree 25 = .ok (.iload_n 2, 1)) rfl ?_
              refine g_aaload_39 hF (by decide +kernel : decode cX4_doEqualsAgree 26 = .ok (.aaload, 1)) (rfl) (show u < 8 by omega) ?_
              refine g_callV hF lkX4_113 (c_X2_matches X hX _ (show s < 19 by omega) _ (show u < 19 by omega) _ (q2.1.1 s (by omega)).1 (q2.1.1 u (by omega)).1) (by decide +kernel : decode cX4_doEqualsAgree 27 = .ok (.invokevirtual 113, 3)) (by decide) rfl rfl rfl rfl (show s < 19 by omega) (Nat.le_of_ble_eq_true rfl) (fun v27 m27 h27 => ?_)
              obtain ⟨rfl, e27⟩ := h27
              obtain rfl := e27.symm
              have b27 := bI_c (eqR (m2 s) (m2 u))
              refine g_if_eq hF (tgt := 54) (by decide +kernel : decode cX4_doEqualsAgree 30 = .ok (.ifCond .eq 24, 3)) (by decide) (by omega) (fun c30 => ?_) (fun c30 => ?_)
              · skip
                refine g_iinc hF (by decide +kernel : decode cX4_doEqualsAgree 54 = .ok (.iinc 2 1, 3)) rfl (by decide) ?_
                refine g_goto hF (tgt := 10) (by decide +kernel : decode cX4_doEqualsAgree 57 = .ok (.goto (-47), 3)) (by decide) ?_
                exact ih (u + 1) m2 (by omega) (by omega) q2
              · skip
                have eq : eqR (m2 s) (m2 u) := Classical.byContradiction (fun q => c30 (bI_f q))
                refine g_aload_n hF (by decide +kernel : decode cX4_doEqualsAgree 33 = .ok (.aload_n 0, 1)) rfl ?_
                refine g_aload_n hF (by decide +kernel : decode cX4_doEqualsAgree 34 = .ok (.aload_n 0, 1)) rfl ?_
                refine g_getC hF lkX4_11 (by decide +kernel : decode cX4_doEqualsAgree 35 = .ok (.getfield 11, 3)) jok38 rfl rfl ?_
                refine g_iload_n hF (by decide +kernel : decode cX4_doEqualsAgree 38 = .ok (.iload_n 1, 1)) rfl ?_
                refine g_aaload_39 hF (by decide +kernel : decode cX4_doEqualsAgree 39 = .ok (.aaload, 1)) (rfl) (show s < 8 by omega) ?_
                refine g_aload_n hF (by decide +kernel : decode cX4_doEqualsAgree 40 = .ok (.aload_n 0, 1)) rfl ?_
                refine g_getC hF lkX4_11 (by decide +kernel : decode cX4_doEqualsAgree 41 = .ok (.getfield 11, 3)) jok38 rfl rfl ?_
                refine g_iload_n hF (by decide +kernel : decode cX4_doEqualsAgree 44 = .ok (.iload_n 2, 1)) rfl ?_
                refine g_aaload_39 hF (by decide +kernel : decode cX4_doEqualsAgree 45 = .ok (.aaload, 1)) (rfl) (show u < 8 by omega) ?_
                refine g_callV hF lkX4_327 (c_X4_doAgree X hX _ (show s < 19 by omega) _ (show u < 19 by omega) _ (q2.1.1 s (by omega)) (q2.1.1 u (by omega)) eq) (by decide +kernel : decode cX4_doEqualsAgree 46 = .ok (.invokevirtual 327, 3)) (by decide) rfl rfl rfl rfl jok38 (Nat.le_of_ble_eq_true rfl) (fun v46 m46 h46 => ?_)
                obtain ⟨rfl, G46, e46⟩ := h46
                have q46 : CQ m m46 := by rw [e46]; exact CQ_trans q2 (CQ_row q2.1 (by unfold garb; omega) (by omega) G46)
                refine g_if_ne hF (tgt := 54) (by decide +kernel : decode cX4_doEqualsAgree 49 = .ok (.ifCond .ne 5, 3)) (by decide) (by omega) (fun c49 => ?_) (fun c49 => ?_)
                · skip
                  refine g_iinc hF (by decide +kernel : decode cX4_doEqualsAgree 54 = .ok (.iinc 2 1, 3)) rfl (by decide) ?_
                  refine g_goto hF (tgt := 10) (by decide +kernel : decode cX4_doEqualsAgree 57 = .ok (.goto (-47), 3)) (by decide) ?_
                  exact ih (u + 1) m46 (by omega) (by omega) q46
                · skip
                  exact absurd c49 (by decide)
        exact loop2 (s + 1) 0 mm (by omega) (by omega) qm
  exact loop 9 0 m (by omega) (by omega) (CQ_rfl hC)
set_option maxHeartbeats 4000000 in
set_option maxRecDepth 100000 in
theorem c_X4_doesTurnComeBack (X : jX) (hX : jxok X) (t : Nat) (ht : t < 8) (m : jM) (hC : CI m) (hk : kindsV (m t) = cnt (m t)) : Con X yX4_doesTurnComeBack cX4_doesTurnComeBack 2 (some .boolean) 6 [vR 2 38, vR 1 t] m (fun o m' => o = some (vI 1) ∧ CQ m m') := by
  refine Con.of hX (by decide) (Nat.le_of_ble_eq_true rfl) (fun F hF hQ => ?_)
  have hr := (hC.1 t (by omega)).1
  have hi := once_inj hr ((kinds_once hr).mp hk)
  have hcb := cnt_b (m t)
  refine g_aload_n hF (by decide +kernel : decode cX4_doesTurnComeBack 0 = .ok (.aload_n 0, 1)) rfl ?_
  refine g_getC hF lkX4_37 (by decide +kernel : decode cX4_doesTurnComeBack 1 = .ok (.getfield 37, 3)) jok38 rfl rfl ?_
  refine g_aload_n hF (by decide +kernel : decode cX4_doesTurnComeBack 4 = .ok (.aload_n 1, 1)) rfl ?_
  refine g_callV hF lkX4_165 (c_X2_becomeTurned X hX _ ht16 _ (show t < 19 by omega) (show t ≠ 16 by omega) _ hr) (by decide +kernel : decode cX4_doesTurnComeBack 5 = .ok (.invokevirtual 165, 3)) (by decide) rfl rfl rfl rfl ht16 (Nat.le_of_ble_eq_true rfl) (fun v5 m5 h5 => ?_)
  obtain ⟨rfl, e5⟩ := h5
  have q5 : CQ m m5 := by rw [e5]; exact CQ_tset hC (by omega) (by omega) (turn_ok (m t))
  have a5 : m5 16 = turnN (m t) 257 := by rw [e5, tset_at]
  have t5 : m5 t = m t := by rw [e5]; exact tset_ne (by omega) (by omega)
  refine g_aload_n hF (by decide +kernel : decode cX4_doesTurnComeBack 8 = .ok (.aload_n 0, 1)) rfl ?_
  refine g_getC hF lkX4_41 (by decide +kernel : decode cX4_doesTurnComeBack 9 = .ok (.getfield 41, 3)) jok38 rfl rfl ?_
  refine g_aload_n hF (by decide +kernel : decode cX4_doesTurnComeBack 12 = .ok (.aload_n 0, 1)) rfl ?_
  refine g_getC hF lkX4_37 (by decide +kernel : decode cX4_doesTurnComeBack 13 = .ok (.getfield 37, 3)) jok38 rfl rfl ?_
  refine g_callV hF lkX4_165 (c_X2_becomeTurned X hX _ ht17 _ ht16 (by decide) _ (q5.1.1 16 (by omega)).1) (by decide +kernel : decode cX4_doesTurnComeBack 16 = .ok (.invokevirtual 165, 3)) (by decide) rfl rfl rfl rfl ht17 (Nat.le_of_ble_eq_true rfl) (fun v16 m16 h16 => ?_)
  obtain ⟨rfl, e16⟩ := h16
  have q16 : CQ m m16 := by rw [e16]; exact CQ_trans q5 (CQ_tset q5.1 (by omega) (by omega) (turn_ok (m5 16)))
  have a16 : m16 16 = turnN (m t) 257 := by rw [e16, tset_ne (by omega) (by omega), a5]
  have b16 : m16 17 = turnN (turnN (m t) 257) 257 := by rw [e16, tset_at, a5]
  have t16 : m16 t = m t := by rw [e16, tset_ne (by omega) (by omega), t5]
  have u16 : m16 (19 + t) 0 = cnt (m16 t) := (q16.1.1 t (by omega)).2
  refine g_aload_n hF (by decide +kernel : decode cX4_doesTurnComeBack 19 = .ok (.aload_n 0, 1)) rfl ?_
  refine g_getC hF lkX4_44 (by decide +kernel : decode cX4_doesTurnComeBack 20 = .ok (.getfield 44, 3)) jok38 rfl rfl ?_
  refine g_aload_n hF (by decide +kernel : decode cX4_doesTurnComeBack 23 = .ok (.aload_n 1, 1)) rfl ?_
  refine g_callV hF lkX4_140 (c_X2_become X hX _ ht18 _ (show t < 19 by omega) _ (by assumption)) (by decide +kernel : decode cX4_doesTurnComeBack 24 = .ok (.invokevirtual 140, 3)) (by decide) rfl rfl rfl rfl ht18 (Nat.le_of_ble_eq_true rfl) (fun v24 m24 h24 => ?_)
  obtain ⟨rfl, e24⟩ := h24
  have q24 : CQ m m24 := by rw [e24]; exact CQ_trans q16 (CQ_tset q16.1 (by omega) (by omega) (q16.1.1 t (by omega)).1)
  have a24 : m24 16 = turnN (m t) 257 := by rw [e24, tset_ne (by omega) (by omega), a16]
  have b24 : m24 17 = turnN (turnN (m t) 257) 257 := by rw [e24, tset_ne (by omega) (by omega), b16]
  have c24 : m24 18 = m t := by rw [e24, tset_at, t16]
  have t24 : m24 t = m t := by rw [e24, tset_ne (by omega) (by omega), t16]
  refine g_aload_n hF (by decide +kernel : decode cX4_doesTurnComeBack 27 = .ok (.aload_n 0, 1)) rfl ?_
  refine g_getC hF lkX4_44 (by decide +kernel : decode cX4_doesTurnComeBack 28 = .ok (.getfield 44, 3)) jok38 rfl rfl ?_
  refine g_aload_n hF (by decide +kernel : decode cX4_doesTurnComeBack 31 = .ok (.aload_n 0, 1)) rfl ?_
  refine g_getC hF lkX4_37 (by decide +kernel : decode cX4_doesTurnComeBack 32 = .ok (.getfield 37, 3)) jok38 rfl rfl ?_
  refine g_callV hF lkX4_159 (c_X2_sendThrough X hX _ ht18 _ ht16 (by decide) _ (q24.1.1 18 (by omega)) (q24.1.1 16 (by omega)).1) (by decide +kernel : decode cX4_doesTurnComeBack 35 = .ok (.invokevirtual 159, 3)) (by decide) rfl rfl rfl rfl ht18 (Nat.le_of_ble_eq_true rfl) (fun v35 m35 h35 => ?_)
  obtain ⟨rfl, e35⟩ := h35
  rw [c24, a24] at e35
  have th := turn_thru hr hi
  have ro : rowok (fun z => if m t z = -2 then -2 else tat (turnN (m t) 257) (m t z)) := comp_ok (h := turnN (m t) 257) (g := m t) (turn_ok (m t))
  have q35 : CQ m m35 := by rw [e35]; exact CQ_trans q24 (CQ_tset q24.1 (by omega) (by omega) ro)
  have a35 : m35 (19 + 16) 0 = m35 (19 + t) 0 := by rw [(q35.1.1 16 (by omega)).2, (q35.1.1 t (by omega)).2, e35, tset_ne (by omega) (by omega), tset_ne (by omega) (by omega), a24, t24, turn_cnt hr hi, hk]
  have t35 : m35 t = m t := by rw [e35, tset_ne (by omega) (by omega), t24]
  have k35 : m35 (19 + t) 0 = cnt (m t) := by rw [(q35.1.1 t (by omega)).2, t35]
  have b35 : eqR (m35 17) (m35 t) := by rw [e35, tset_ne (by omega) (by omega), tset_ne (by omega) (by omega), b24, t24]; exact turn_turn hr hi
  have s35 : m35 18 = fun z => if m t z = -2 then -2 else tat (turnN (m t) 257) (m t z) := by rw [e35, tset_at]
  have c35 : m35 (19 + 18) 0 = m35 (19 + t) 0 := by rw [(q35.1.1 18 (by omega)).2, k35, s35]; exact cnt_selv th
  have d35 : sumN (fun z => if m35 18 z = z - 1 then 1 else 0) 257 = m35 (19 + t) 0 := by rw [k35, s35]; exact self_selv th
  refine g_aload_n hF (by decide +kernel : decode cX4_doesTurnComeBack 38 = .ok (.aload_n 0, 1)) rfl ?_
  refine g_getC hF lkX4_37 (by decide +kernel : decode cX4_doesTurnComeBack 39 = .ok (.getfield 37, 3)) jok38 rfl rfl ?_
  refine g_tcnt hF lkX4_85 (by decide +kernel : decode cX4_doesTurnComeBack 42 = .ok (.getfield 85, 3)) ht16 ?_
  refine g_aload_n hF (by decide +kernel : decode cX4_doesTurnComeBack 45 = .ok (.aload_n 1, 1)) rfl ?_
  refine g_tcnt hF lkX4_85 (by decide +kernel : decode cX4_doesTurnComeBack 46 = .ok (.getfield 85, 3)) (show t < 19 by omega) ?_
  refine g_icmp_ne hF (tgt := 95) (by decide +kernel : decode cX4_doesTurnComeBack 49 = .ok (.if_icmp .ne 46, 3)) (by decide) (by omega) (by omega) (fun c49 => ?_) (fun c49 => ?_)
  · skip
    exact absurd a35 c49
  · skip
    refine g_aload_n hF (by decide +kernel : decode cX4_doesTurnComeBack 52 = .ok (.aload_n 0, 1)) rfl ?_
    refine g_getC hF lkX4_41 (by decide +kernel : decode cX4_doesTurnComeBack 53 = .ok (.getfield 41, 3)) jok38 rfl rfl ?_
    refine g_aload_n hF (by decide +kernel : decode cX4_doesTurnComeBack 56 = .ok (.aload_n 1, 1)) rfl ?_
    refine g_callV hF lkX4_113 (c_X2_matches X hX _ ht17 _ (show t < 19 by omega) _ (q35.1.1 17 (by omega)).1 (q35.1.1 t (by omega)).1) (by decide +kernel : decode cX4_doesTurnComeBack 57 = .ok (.invokevirtual 113, 3)) (by decide) rfl rfl rfl rfl ht17 (Nat.le_of_ble_eq_true rfl) (fun v57 m57 h57 => ?_)
    obtain ⟨rfl, e57⟩ := h57
    obtain rfl := e57.symm
    rw [bI_t b35]
    refine g_if_eq hF (tgt := 95) (by decide +kernel : decode cX4_doesTurnComeBack 60 = .ok (.ifCond .eq 35, 3)) (by decide) (by omega) (fun c60 => ?_) (fun c60 => ?_)
    · skip
      exact absurd c60 (by decide)
    · skip
      refine g_aload_n hF (by decide +kernel : decode cX4_doesTurnComeBack 63 = .ok (.aload_n 0, 1)) rfl ?_
      refine g_getC hF lkX4_44 (by decide +kernel : decode cX4_doesTurnComeBack 64 = .ok (.getfield 44, 3)) jok38 rfl rfl ?_
      refine g_tcnt hF lkX4_85 (by decide +kernel : decode cX4_doesTurnComeBack 67 = .ok (.getfield 85, 3)) ht18 ?_
      refine g_aload_n hF (by decide +kernel : decode cX4_doesTurnComeBack 70 = .ok (.aload_n 1, 1)) rfl ?_
      refine g_tcnt hF lkX4_85 (by decide +kernel : decode cX4_doesTurnComeBack 71 = .ok (.getfield 85, 3)) (show t < 19 by omega) ?_
      refine g_icmp_ne hF (tgt := 95) (by decide +kernel : decode cX4_doesTurnComeBack 74 = .ok (.if_icmp .ne 21, 3)) (by decide) (by omega) (by omega) (fun c74 => ?_) (fun c74 => ?_)
      · skip
        exact absurd c35 c74
      · skip
        refine g_aload_n hF (by decide +kernel : decode cX4_doesTurnComeBack 77 = .ok (.aload_n 0, 1)) rfl ?_
        refine g_getC hF lkX4_44 (by decide +kernel : decode cX4_doesTurnComeBack 78 = .ok (.getfield 44, 3)) jok38 rfl rfl ?_
        refine g_callV hF lkX4_176 (c_X2_selves X hX _ ht18 _ (q35.1.1 18 (by omega)).1) (by decide +kernel : decode cX4_doesTurnComeBack 81 = .ok (.invokevirtual 176, 3)) (by decide) rfl rfl rfl rfl ht18 (Nat.le_of_ble_eq_true rfl) (fun v81 m81 h81 => ?_)
        obtain ⟨rfl, e81⟩ := h81
        obtain rfl := e81.symm
        refine g_aload_n hF (by decide +kernel : decode cX4_doesTurnComeBack 84 = .ok (.aload_n 1, 1)) rfl ?_
        refine g_tcnt hF lkX4_85 (by decide +kernel : decode cX4_doesTurnComeBack 85 = .ok (.getfield 85, 3)) (show t < 19 by omega) ?_
        refine g_icmp_ne hF (tgt := 95) (by decide +kernel : decode cX4_doesTurnComeBack 88 = .ok (.if_icmp .ne 7, 3)) (by decide) (by omega) (by omega) (fun c88 => ?_) (fun c88 => ?_)
        · skip
          exact absurd d35 c88
        · skip
          refine g_iconst hF (by decide +kernel : decode cX4_doesTurnComeBack 91 = .ok (.iconst 1, 1)) ?_
          refine g_goto hF (tgt := 96) (by decide +kernel : decode cX4_doesTurnComeBack 92 = .ok (.goto 4, 3)) (by decide) ?_
          refine g_zreturn hF hQ (by decide +kernel : decode cX4_doesTurnComeBack 96 = .ok (.ireturn, 1)) (by first | exact Or.inl rfl | exact Or.inr rfl | omega) ?_
          exact ⟨rfl, q35⟩
set_option maxHeartbeats 4000000 in
set_option maxRecDepth 100000 in
theorem c_X4_doTurnsComeBack (X : jX) (hX : jxok X) (m : jM) (hC : CI m) : Con X yX4_doTurnsComeBack cX4_doTurnsComeBack 2 (some .boolean) 7 [vR 2 38] m (fun o m' => o = some (vI 1) ∧ CQ m m') := by
  refine Con.of hX (by decide) (Nat.le_of_ble_eq_true rfl) (fun F hF hQ => ?_)
  refine g_iconst hF (by decide +kernel : decode cX4_doTurnsComeBack 0 = .ok (.iconst 0, 1)) ?_
  refine g_istore_n hF (by decide +kernel : decode cX4_doTurnsComeBack 1 = .ok (.istore_n 1, 1)) (by decide) ?_
  have loop : ∀ (n s : Nat) (mm : jM), s ≤ 8 → 9 ≤ s + n → CQ m mm → jG F X mm 2 [(0, vR 2 38), (1, vI s)] [] := by
    intro n
    induction n with
    | zero => intro s mm h1 h2; exact absurd h2 (by omega)
    | succ n ih =>
      intro s mm h1 h2 qm
      refine g_iload_n hF (by decide +kernel : decode cX4_doTurnsComeBack 2 = .ok (.iload_n 1, 1)) rfl ?_
      refine g_bipush hF (by decide +kernel : decode cX4_doTurnsComeBack 3 = .ok (.bipush 8, 2)) (by decide) ?_
      refine g_icmp_ge hF (tgt := 42) (by decide +kernel : decode cX4_doTurnsComeBack 5 = .ok (.if_icmp .ge 37, 3)) (by decide) (by omega) (by omega) (fun c5 => ?_) (fun c5 => ?_)
      · skip
        refine g_iconst hF (by decide +kernel : decode cX4_doTurnsComeBack 42 = .ok (.iconst 1, 1)) ?_
        refine g_zreturn hF hQ (by decide +kernel : decode cX4_doTurnsComeBack 43 = .ok (.ireturn, 1)) (by first | exact Or.inl rfl | exact Or.inr rfl | omega) ?_
        exact ⟨rfl, qm⟩
      · skip
        refine g_aload_n hF (by decide +kernel : decode cX4_doTurnsComeBack 8 = .ok (.aload_n 0, 1)) rfl ?_
        refine g_aload_n hF (by decide +kernel : decode cX4_doTurnsComeBack 9 = .ok (.aload_n 0, 1)) rfl ?_
        refine g_getC hF lkX4_11 (by decide +kernel : decode cX4_doTurnsComeBack 10 = .ok (.getfield 11, 3)) jok38 rfl rfl ?_
        refine g_iload_n hF (by decide +kernel : decode cX4_doTurnsComeBack 13 = .ok (.iload_n 1, 1)) rfl ?_
        refine g_aaload_39 hF (by decide +kernel : decode cX4_doTurnsComeBack 14 = .ok (.aaload, 1)) (rfl) (show s < 8 by omega) ?_
        refine g_callV hF lkX4_267 (c_X4_canTurn X hX _ (show s < 19 by omega) _ (qm.1.1 s (by omega))) (by decide +kernel : decode cX4_doTurnsComeBack 15 = .ok (.invokevirtual 267, 3)) (by decide) rfl rfl rfl rfl jok38 (Nat.le_of_ble_eq_true rfl) (fun v15 m15 h15 => ?_)
        obtain ⟨rfl, G15, e15⟩ := h15
        have q15 : CQ m m15 := by rw [e15]; exact CQ_trans qm (CQ_row qm.1 (by unfold garb; omega) (by omega) G15)
        have s15 : m15 s = mm s := by rw [e15]; exact mrow_ne (by omega)
        refine g_if_eq hF (tgt := 36) (by decide +kernel : decode cX4_doTurnsComeBack 18 = .ok (.ifCond .eq 18, 3)) (by decide) (by split <;> omega) (fun c18 => ?_) (fun c18 => ?_)
        · skip
          refine g_iinc hF (by decide +kernel : decode cX4_doTurnsComeBack 36 = .ok (.iinc 1 1, 3)) rfl (by decide) ?_
          refine g_goto hF (tgt := 2) (by decide +kernel : decode cX4_doTurnsComeBack 39 = .ok (.goto (-37), 3)) (by decide) ?_
          exact ih (s + 1) _ (by omega) (by omega) q15
        · skip
          refine g_aload_n hF (by decide +kernel : decode cX4_doTurnsComeBack 21 = .ok (.aload_n 0, 1)) rfl ?_
          refine g_aload_n hF (by decide +kernel : decode cX4_doTurnsComeBack 22 = .ok (.aload_n 0, 1)) rfl ?_
          refine g_getC hF lkX4_11 (by decide +kernel : decode cX4_doTurnsComeBack 23 = .ok (.getfield 11, 3)) jok38 rfl rfl ?_
          refine g_iload_n hF (by decide +kernel : decode cX4_doTurnsComeBack 26 = .ok (.iload_n 1, 1)) rfl ?_
          refine g_aaload_39 hF (by decide +kernel : decode cX4_doTurnsComeBack 27 = .ok (.aaload, 1)) (rfl) (show s < 8 by omega) ?_
          refine g_callV hF lkX4_330 (c_X4_doesTurnComeBack X hX _ (show s < 8 by omega) _ q15.1 (by rw [s15]; exact i01_t c18)) (by decide +kernel : decode cX4_doTurnsComeBack 28 = .ok (.invokevirtual 330, 3)) (by decide) rfl rfl rfl rfl jok38 (Nat.le_of_ble_eq_true rfl) (fun v28 m28 h28 => ?_)
          obtain ⟨rfl, q28⟩ := h28
          have C28 := q28.1
          refine g_if_ne hF (tgt := 36) (by decide +kernel : decode cX4_doTurnsComeBack 31 = .ok (.ifCond .ne 5, 3)) (by decide) (by omega) (fun c31 => ?_) (fun c31 => ?_)
          · skip
            refine g_iinc hF (by decide +kernel : decode cX4_doTurnsComeBack 36 = .ok (.iinc 1 1, 3)) rfl (by decide) ?_
            refine g_goto hF (tgt := 2) (by decide +kernel : decode cX4_doTurnsComeBack 39 = .ok (.goto (-37), 3)) (by decide) ?_
            exact ih (s + 1) _ (by omega) (by omega) (CQ_trans q15 q28)
          · skip
            exact absurd c31 (by decide)
  exact loop 9 0 m (by omega) (by omega) (CQ_rfl hC)
set_option maxHeartbeats 4000000 in
set_option maxRecDepth 100000 in
theorem c_X4_isSound (X : jX) (hX : jxok X) (m : jM) (hC : CI m) : Con X yX4_isSound cX4_isSound 1 (some .boolean) 8 [vR 2 38] m (fun o m' => o = some (vI 1) ∧ CQ m m') := by
  refine Con.of hX (by decide) (Nat.le_of_ble_eq_true rfl) (fun F hF hQ => ?_)
  refine g_aload_n hF (by decide +kernel : decode cX4_isSound 0 = .ok (.aload_n 0, 1)) rfl ?_
  refine g_callV hF lkX4_241 (c_X4_areRemakesSame X hX _ (by assumption)) (by decide +kernel : decode cX4_isSound 1 = .ok (.invokevirtual 241, 3)) (by decide) rfl rfl rfl rfl jok38 (Nat.le_of_ble_eq_true rfl) (fun v1 m1 h1 => ?_)
  obtain ⟨rfl, q1⟩ := h1
  have C1 := q1.1
  refine g_if_eq hF (tgt := 32) (by decide +kernel : decode cX4_isSound 4 = .ok (.ifCond .eq 28, 3)) (by decide) (by omega) (fun c4 => ?_) (fun c4 => ?_)
  · skip
    exact absurd c4 (by decide)
  · skip
    refine g_aload_n hF (by decide +kernel : decode cX4_isSound 7 = .ok (.aload_n 0, 1)) rfl ?_
    refine g_callV hF lkX4_244 (c_X4_isRowLikeItsLastWords X hX _ (by assumption)) (by decide +kernel : decode cX4_isSound 8 = .ok (.invokevirtual 244, 3)) (by decide) rfl rfl rfl rfl jok38 (Nat.le_of_ble_eq_true rfl) (fun v8 m8 h8 => ?_)
    obtain ⟨rfl, q8⟩ := h8
    have C8 := q8.1
    refine g_if_eq hF (tgt := 32) (by decide +kernel : decode cX4_isSound 11 = .ok (.ifCond .eq 21, 3)) (by decide) (by omega) (fun c11 => ?_) (fun c11 => ?_)
    · skip
      exact absurd c11 (by decide)
    · skip
      refine g_aload_n hF (by decide +kernel : decode cX4_isSound 14 = .ok (.aload_n 0, 1)) rfl ?_
      refine g_callV hF lkX4_247 (c_X4_doEqualsAgree X hX _ (by assumption)) (by decide +kernel : decode cX4_isSound 15 = .ok (.invokevirtual 247, 3)) (by decide) rfl rfl rfl rfl jok38 (Nat.le_of_ble_eq_true rfl) (fun v15 m15 h15 => ?_)
      obtain ⟨rfl, q15⟩ := h15
      have C15 := q15.1
      refine g_if_eq hF (tgt := 32) (by decide +kernel : decode cX4_isSound 18 = .ok (.ifCond .eq 14, 3)) (by decide) (by omega) (fun c18 => ?_) (fun c18 => ?_)
      · skip
        exact absurd c18 (by decide)
      · skip
        refine g_aload_n hF (by decide +kernel : decode cX4_isSound 21 = .ok (.aload_n 0, 1)) rfl ?_
        refine g_callV hF lkX4_250 (c_X4_doTurnsComeBack X hX _ (by assumption)) (by decide +kernel : decode cX4_isSound 22 = .ok (.invokevirtual 250, 3)) (by decide) rfl rfl rfl rfl jok38 (Nat.le_of_ble_eq_true rfl) (fun v22 m22 h22 => ?_)
        obtain ⟨rfl, q22⟩ := h22
        have C22 := q22.1
        refine g_if_eq hF (tgt := 32) (by decide +kernel : decode cX4_isSound 25 = .ok (.ifCond .eq 7, 3)) (by decide) (by omega) (fun c25 => ?_) (fun c25 => ?_)
        · skip
          exact absurd c25 (by decide)
        · skip
          refine g_iconst hF (by decide +kernel : decode cX4_isSound 28 = .ok (.iconst 1, 1)) ?_
          refine g_goto hF (tgt := 33) (by decide +kernel : decode cX4_isSound 29 = .ok (.goto 4, 3)) (by decide) ?_
          refine g_zreturn hF hQ (by decide +kernel : decode cX4_isSound 33 = .ok (.ireturn, 1)) (by first | exact Or.inl rfl | exact Or.inr rfl | omega) ?_
          exact ⟨rfl, CQ_trans q1 (CQ_trans q8 (CQ_trans q15 q22))⟩

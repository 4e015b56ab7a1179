/-! BLOCKS of the law -/
set_option maxHeartbeats 4000000 in
set_option maxRecDepth 100000 in
theorem lb_43 {F : jF} {X : jX} {L : Nat} {xs : Nat → Int32} (hF : jOk F X RL cL_law 10 (some .boolean) 20) (hX : jxok X) (hs : jScr F X L xs) (hroom : fk F + 1 ≤ (fR F).cells ∧ fn F + 6 ≤ (fR F).slots) (i : Nat) (hi : i + 5 ≤ L) (m : jM) (hR : Rel m) (k : ∀ m9 : jM, Rel m9 → jG (fup F (fk F + 1) (fn F + 6)) X m9 3451 (lw0 i) []) : jG F X m 3248 (lw0 i) [] := by
  refine g_aload_n hF (by decide +kernel : decode cL_law 3248 = .ok (.aload_n 1, 1)) rfl ?_
  obtain ⟨w, hw, hmw, hK, hV⟩ := hR.2.2.2.1
  have hm0 := hw.1
  have hw60 := hw.2.1
  refine g_callV hF lkL_312 (c_X4_lastWords X hX w m hR.C hw) (by decide +kernel : decode cL_law 3249 = .ok (.invokevirtual 312, 3)) (by decide) rfl rfl rfl rfl jok38 (Nat.le_of_ble_eq_true rfl) (fun v1 m1 h1 => ?_)
  obtain ⟨rfl, q1⟩ := h1
  have a51 : ∀ j : Nat, 51 ≤ j → m1 j = m j := fun j a => q1.2 j (by unfold garb; omega)
  have hmw1 : mwok m1 w := by unfold mwok; rw [a51 51 (by decide), a51 55 (by decide), a51 56 (by decide)]; exact hmw
  have hI1 : MI m1 := MI_q hR.I (a51 52 (by decide)) (a51 55 (by decide)) (a51 56 (by decide)) (a51 57 (by decide)) (by rw [a51 51 (by decide)]) (by rw [a51 51 (by decide)])
  refine g_aload_n hF (by decide +kernel : decode cL_law 3252 = .ok (.aload_n 2, 1)) rfl ?_
  refine g_callV hF lkL_315 (c_X5_lastWords X hX w m1 hmw1) (by decide +kernel : decode cL_law 3253 = .ok (.invokevirtual 315, 3)) (by decide) rfl rfl rfl rfl jok51 (Nat.le_of_ble_eq_true rfl) (fun v2 m2 h2 => ?_)
  obtain ⟨rfl, q2, z2⟩ := h2
  have e2 : Rel m2 := Rel_QS hR q1 (Or.inl rfl) (mset_same rfl).symm q2
  rw [a51 55 (by decide), ← lastCount_eqW hK]
  refine g_icmp_eq hF (tgt := 3451) (by decide +kernel : decode cL_law 3256 = .ok (.if_icmp .eq 195, 3)) (by decide) (lastCount_jr _ hmw.1) (lastCount_jr _ hmw.1) (fun c3256 => ?_) (fun c3256 => absurd rfl c3256)
  refine g_take 6 ?_
  refine g_fup (fk F + 1) (fn F + 6) (Nat.le_succ _) (by omega) ?_
  exact k _ e2
set_option maxHeartbeats 4000000 in
set_option maxRecDepth 100000 in
theorem lb_46 {F : jF} {X : jX} {L : Nat} {xs : Nat → Int32} (hF : jOk F X RL cL_law 10 (some .boolean) 20) (hX : jxok X) (hs : jScr F X L xs) (hroom : fk F + 1 ≤ (fR F).cells ∧ fn F + 6 ≤ (fR F).slots) (i : Nat) (hi : i + 5 ≤ L) (m : jM) (hR : Rel m) (k : ∀ m9 : jM, Rel m9 → jG (fup F (fk F + 1) (fn F + 6)) X m9 3451 (lw0 i) []) : jG F X m 3383 (lw0 i) [] := by
  refine g_aload_n hF (by decide +kernel : decode cL_law 3383 = .ok (.aload_n 1, 1)) rfl ?_
  refine g_callV hF lkL_324 (c_X4_meanSize X hX m hR.C) (by decide +kernel : decode cL_law 3384 = .ok (.invokevirtual 324, 3)) (by decide) rfl rfl rfl rfl jok38 (Nat.le_of_ble_eq_true rfl) (fun v1 m1 h1 => ?_)
  obtain ⟨rfl, q1⟩ := h1
  have a51 : ∀ j : Nat, 51 ≤ j → m1 j = m j := fun j a => q1.2 j (by unfold garb; omega)
  have hI1 : MI m1 := MI_q hR.I (a51 52 (by decide)) (a51 55 (by decide)) (a51 56 (by decide)) (a51 57 (by decide)) (by rw [a51 51 (by decide)]) (by rw [a51 51 (by decide)])
  refine g_dstore hF (by decide +kernel : decode cL_law 3387 = .ok (.dstore 6, 2)) (by decide) ?_
  refine g_aload_n hF (by decide +kernel : decode cL_law 3389 = .ok (.aload_n 2, 1)) rfl ?_
  refine g_callV hF lkL_328 (c_X5_meanSize X hX m1 hI1) (by decide +kernel : decode cL_law 3390 = .ok (.invokevirtual 328, 3)) (by decide) rfl rfl rfl rfl jok51 (Nat.le_of_ble_eq_true rfl) (fun v2 m2 h2 => ?_)
  obtain ⟨rfl, q2, z2⟩ := h2
  have e2 : Rel m2 := Rel_QS hR q1 (Or.inl rfl) (mset_same rfl).symm q2
  have hsz : sizeA m 8 = sizeB m1 8 := sizeA_eq (fun s hs => by rw [mR_52 (a51 52 (by decide))]; exact hR.R hs)
  refine g_dstore hF (by decide +kernel : decode cL_law 3393 = .ok (.dstore 8, 2)) (by decide) ?_
  refine g_dload hF (by decide +kernel : decode cL_law 3395 = .ok (.dload 6, 2)) rfl ?_
  refine g_dload hF (by decide +kernel : decode cL_law 3397 = .ok (.dload 8, 2)) rfl ?_
  refine g_dcmpE hF (by decide +kernel : decode cL_law 3399 = .ok (.dcmp .l, 1)) (by rw [hsz]) (mean_nan _) ?_
  refine g_if_eq hF (tgt := 3421) (by decide +kernel : decode cL_law 3400 = .ok (.ifCond .eq 21, 3)) (by decide) (by decide) (fun c3400 => ?_) (fun c3400 => absurd rfl c3400)
  refine g_goto hF (tgt := 3451) (by decide +kernel : decode cL_law 3421 = .ok (.goto 30, 3)) (by decide) ?_
  refine g_take 6 ?_
  refine g_fup (fk F + 1) (fn F + 6) (Nat.le_succ _) (by omega) ?_
  exact k _ e2
set_option maxHeartbeats 4000000 in
set_option maxRecDepth 100000 in
theorem lb_47 {F : jF} {X : jX} {L : Nat} {xs : Nat → Int32} (hF : jOk F X RL cL_law 10 (some .boolean) 20) (hX : jxok X) (hs : jScr F X L xs) (hroom : fk F + 1 ≤ (fR F).cells ∧ fn F + 6 ≤ (fR F).slots) (i : Nat) (hi : i + 5 ≤ L) (m : jM) (hR : Rel m) (k : ∀ m9 : jM, Rel m9 → jG (fup F (fk F + 1) (fn F + 6)) X m9 3451 (lw0 i) []) : jG F X m 3424 (lw0 i) [] := by
  refine g_aload_n hF (by decide +kernel : decode cL_law 3424 = .ok (.aload_n 1, 1)) rfl ?_
  obtain ⟨w, hw, hmw, hK, hV⟩ := hR.2.2.2.1
  have hm0 := hw.1
  have hw60 := hw.2.1
  refine g_callV hF lkL_329 (c_X4_checksum X hX w m hR.C hw) (by decide +kernel : decode cL_law 3425 = .ok (.invokevirtual 329, 3)) (by decide) rfl rfl rfl rfl jok38 (Nat.le_of_ble_eq_true rfl) (fun v1 m1 h1 => ?_)
  obtain ⟨rfl, q1⟩ := h1
  have a51 : ∀ j : Nat, 51 ≤ j → m1 j = m j := fun j a => q1.2 j (by unfold garb; omega)
  have hmw1 : mwok m1 w := by unfold mwok; rw [a51 51 (by decide), a51 55 (by decide), a51 56 (by decide)]; exact hmw
  have hI1 : MI m1 := MI_q hR.I (a51 52 (by decide)) (a51 55 (by decide)) (a51 56 (by decide)) (a51 57 (by decide)) (by rw [a51 51 (by decide)]) (by rw [a51 51 (by decide)])
  refine g_aload_n hF (by decide +kernel : decode cL_law 3428 = .ok (.aload_n 2, 1)) rfl ?_
  refine g_callV hF lkL_333 (c_X5_checksum X hX w m1 hI1 hmw1) (by decide +kernel : decode cL_law 3429 = .ok (.invokevirtual 333, 3)) (by decide) rfl rfl rfl rfl jok51 (Nat.le_of_ble_eq_true rfl) (fun v2 m2 h2 => ?_)
  obtain ⟨rfl, q2, z2⟩ := h2
  have e2 : Rel m2 := Rel_QS hR q1 (Or.inl rfl) (mset_same rfl).symm q2
  have hck : ckR (m 41) (m 42) w (ckA m 8) w = ckR (m1 55) (m1 56) w (ckB m1 8) w := by
    rw [a51 55 (by decide), a51 56 (by decide), ckA_eq (m1 := m1) (fun s hs => by rw [mR_52 (a51 52 (by decide))]; exact hR.R hs) 8 (Nat.le_refl _)]
    exact ckR_eqW w w (Nat.le_refl _) hK hV
  refine g_lcmpE hF (by decide +kernel : decode cL_law 3432 = .ok (.lcmp, 1)) hck ?_
  refine g_if_eq hF (tgt := 3451) (by decide +kernel : decode cL_law 3433 = .ok (.ifCond .eq 18, 3)) (by decide) (by decide) (fun c3433 => ?_) (fun c3433 => absurd rfl c3433)
  refine g_take 6 ?_
  refine g_fup (fk F + 1) (fn F + 6) (Nat.le_succ _) (by omega) ?_
  exact k _ e2
set_option maxHeartbeats 4000000 in
set_option maxRecDepth 100000 in
theorem lb_48 {F : jF} {X : jX} {L : Nat} {xs : Nat → Int32} (hF : jOk F X RL cL_law 10 (some .boolean) 20) (hX : jxok X) (hs : jScr F X L xs) (hroom : fk F + 1 ≤ (fR F).cells ∧ fn F + 6 ≤ (fR F).slots) (i : Nat) (hi : i + 5 ≤ L) (m : jM) (hR : Rel m) (k : ∀ m9 : jM, Rel m9 → jG (fup F (fk F + 1) (fn F + 6)) X m9 3451 (lw0 i) []) : jG F X m 3438 (lw0 i) [] := by
  refine g_aload_n hF (by decide +kernel : decode cL_law 3438 = .ok (.aload_n 1, 1)) rfl ?_
  refine g_callV hF lkL_334 (c_X4_isSound X hX m hR.C) (by decide +kernel : decode cL_law 3439 = .ok (.invokevirtual 334, 3)) (by decide) rfl rfl rfl rfl jok38 (Nat.le_of_ble_eq_true rfl) (fun v1 m1 h1 => ?_)
  obtain ⟨rfl, q1⟩ := h1
  have a51 : ∀ j : Nat, 51 ≤ j → m1 j = m j := fun j a => q1.2 j (by unfold garb; omega)
  have hI1 : MI m1 := MI_q hR.I (a51 52 (by decide)) (a51 55 (by decide)) (a51 56 (by decide)) (a51 57 (by decide)) (by rw [a51 51 (by decide)]) (by rw [a51 51 (by decide)])
  refine g_aload_n hF (by decide +kernel : decode cL_law 3442 = .ok (.aload_n 2, 1)) rfl ?_
  refine g_callV hF lkL_338 (c_X5_isSound X hX m1) (by decide +kernel : decode cL_law 3443 = .ok (.invokevirtual 338, 3)) (by decide) rfl rfl rfl rfl jok51 (Nat.le_of_ble_eq_true rfl) (fun v2 m2 h2 => ?_)
  obtain ⟨rfl, q2, z2⟩ := h2
  have e2 : Rel m2 := Rel_QS hR q1 (Or.inl rfl) (mset_same rfl).symm q2
  refine g_icmp_eq hF (tgt := 3451) (by decide +kernel : decode cL_law 3446 = .ok (.if_icmp .eq 5, 3)) (by decide) (by decide) (by decide) (fun c3446 => ?_) (fun c3446 => absurd rfl c3446)
  refine g_take 6 ?_
  refine g_fup (fk F + 1) (fn F + 6) (Nat.le_succ _) (by omega) ?_
  exact k _ e2
set_option maxHeartbeats 4000000 in
set_option maxRecDepth 100000 in
theorem lb_39 {F : jF} {X : jX} {L : Nat} {xs : Nat → Int32} (hF : jOk F X RL cL_law 10 (some .boolean) 20) (hX : jxok X) (hs : jScr F X L xs) (hroom : fk F + 1 ≤ (fR F).cells ∧ fn F + 6 ≤ (fR F).slots) (i : Nat) (hi : i + 5 ≤ L) (m : jM) (hR : Rel m) (k : ∀ m9 : jM, Rel m9 → jG (fup F (fk F + 1) (fn F + 6)) X m9 3451 (lw0 i) []) : jG F X m 3039 (lw0 i) [] := by
  refine g_aload_n hF (by decide +kernel : decode cL_law 3039 = .ok (.aload_n 1, 1)) rfl ?_
  obtain ⟨w, hw, hmw, hK, hV⟩ := hR.2.2.2.1
  have hm0 := hw.1
  have hw60 := hw.2.1
  refine g_callV hF lkL_298 (c_X4_hush X hX w m hR.C hw) (by decide +kernel : decode cL_law 3040 = .ok (.invokevirtual 298, 3)) (by decide) rfl rfl rfl rfl jok38 (Nat.le_of_ble_eq_true rfl) (fun v1 m1 h1 => ?_)
  obtain ⟨rfl, q1⟩ := h1
  have a51 : ∀ j : Nat, 51 ≤ j → m1 j = m j := fun j a => q1.2.1 j (by unfold garb; omega) (by omega) (by omega) (by omega)
  have hmw1 : mwok m1 w := by unfold mwok; rw [a51 51 (by decide), a51 55 (by decide), a51 56 (by decide)]; exact hmw
  have hI1 : MI m1 := MI_q hR.I (a51 52 (by decide)) (a51 55 (by decide)) (a51 56 (by decide)) (a51 57 (by decide)) (by rw [a51 51 (by decide)]) (by rw [a51 51 (by decide)])
  refine g_aload_n hF (by decide +kernel : decode cL_law 3043 = .ok (.aload_n 2, 1)) rfl ?_
  refine g_callV hF lkL_301 (c_X5_hush X hX w m1 hmw1) (by decide +kernel : decode cL_law 3044 = .ok (.invokevirtual 301, 3)) (by decide) rfl rfl rfl rfl jok51 (Nat.le_of_ble_eq_true rfl) (fun v2 m2 h2 => ?_)
  obtain ⟨rfl, q2, z2⟩ := h2
  have e2 : Rel m2 := Rel_R hR (by decide) (fun z a b => absurd b (by omega)) q1 (mset_same rfl).symm q2 rfl (fun z a b => absurd b (by omega)) (fun z a b => absurd b (by omega))
  refine g_icmp_eq hF (tgt := 3451) (by decide +kernel : decode cL_law 3047 = .ok (.if_icmp .eq 404, 3)) (by decide) (by omega) (by omega) (fun c3047 => ?_) (fun c3047 => absurd rfl c3047)
  refine g_take 6 ?_
  refine g_fup (fk F + 1) (fn F + 6) (Nat.le_succ _) (by omega) ?_
  exact k _ e2

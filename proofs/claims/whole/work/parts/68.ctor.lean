theorem kac_int : Cond.arrayClass .int ∈ Tb := (Tb_in (tin1 (List.mem_of_getElem? (i := 54) (by decide +kernel))) (by decide +kernel))
theorem kac_boolean : Cond.arrayClass .boolean ∈ Tb := (Tb_in (tin1 (List.mem_of_getElem? (i := 55) (by decide +kernel))) (by decide +kernel))
theorem kac_byte : Cond.arrayClass .byte ∈ Tb := (Tb_in (tin2 (List.mem_of_getElem? (i := 138) (by decide +kernel))) (by decide +kernel))
theorem kac_long : Cond.arrayClass .long ∈ Tb := (Tb_in (tin6 (List.mem_of_getElem? (i := 70) (by decide +kernel))) (by decide +kernel))
theorem kac_double : Cond.arrayClass .double ∈ Tb := (Tb_in (tin6 (List.mem_of_getElem? (i := 71) (by decide +kernel))) (by decide +kernel))
theorem koin : Cond.instanceMethod Lib.objectInit ∈ Tb := (Tb_in (tin1 (List.mem_of_getElem? (i := 27) (by decide +kernel))) (by decide +kernel))
theorem koco : Cond.code Lib.objectInit ⟨#[0xb1]⟩ 1 none ∈ Tb := (Tb_in (tin1 (List.mem_of_getElem? (i := 28) (by decide +kernel))) (by decide +kernel))
theorem kin_X0 : Cond.instantiable RX0 4 ∈ Tb := (Tb_in (tin1 (List.mem_of_getElem? (i := 57) (by decide +kernel))) (by decide +kernel))
theorem kini_X0 : Cond.initialized RX0 ∈ Tb := (Tb_in (tin1 (List.mem_of_getElem? (i := 3) (by decide +kernel))) (by decide +kernel))
theorem kin_X1 : Cond.instantiable RX1 5 ∈ Tb := (Tb_in (tin1 (List.mem_of_getElem? (i := 32) (by decide +kernel))) (by decide +kernel))
theorem kini_X1 : Cond.initialized RX1 ∈ Tb := (Tb_in (tin1 (List.mem_of_getElem? (i := 2) (by decide +kernel))) (by decide +kernel))
theorem kin_X2 : Cond.instantiable RX2 2 ∈ Tb := (Tb_in (tin1 (List.mem_of_getElem? (i := 63) (by decide +kernel))) (by decide +kernel))
theorem kini_X2 : Cond.initialized RX2 ∈ Tb := (Tb_in (tin1 (List.mem_of_getElem? (i := 4) (by decide +kernel))) (by decide +kernel))
theorem kin_X3 : Cond.instantiable RX3 4 ∈ Tb := (Tb_in (tin1 (List.mem_of_getElem? (i := 94) (by decide +kernel))) (by decide +kernel))
theorem kini_X3 : Cond.initialized RX3 ∈ Tb := (Tb_in (tin1 (List.mem_of_getElem? (i := 6) (by decide +kernel))) (by decide +kernel))
theorem kin_X4 : Cond.instantiable RX4 8 ∈ Tb := (Tb_in (tin1 (List.mem_of_getElem? (i := 22) (by decide +kernel))) (by decide +kernel))
theorem kini_X4 : Cond.initialized RX4 ∈ Tb := (Tb_in (tin1 (List.mem_of_getElem? (i := 1) (by decide +kernel))) (by decide +kernel))
theorem kin_X5 : Cond.instantiable RX5 11 ∈ Tb := (Tb_in (tin4 (List.mem_of_getElem? (i := 236) (by decide +kernel))) (by decide +kernel))
theorem kini_X5 : Cond.initialized RX5 ∈ Tb := (Tb_in (tin1 (List.mem_of_getElem? (i := 7) (by decide +kernel))) (by decide +kernel))
theorem kdef_X0 : ∀ j : Nat, j < 4 → defaultValue (tyX0 j) = vp_V [.null, .null, .int (Int32.ofInt 0), .int (Int32.ofInt 0)] j := by
  intro j hj
  rcases (show j = 0 ∨ j = 1 ∨ j = 2 ∨ j = 3 by omega) with rfl | rfl | rfl | rfl <;> rfl
theorem kdef_X1 : ∀ j : Nat, j < 5 → defaultValue (tyX1 j) = vp_V [.null, .null, .null, .null, .int (Int32.ofInt 0)] j := by
  intro j hj
  rcases (show j = 0 ∨ j = 1 ∨ j = 2 ∨ j = 3 ∨ j = 4 by omega) with rfl | rfl | rfl | rfl | rfl <;> rfl
theorem kdef_X2 : ∀ j : Nat, j < 2 → defaultValue (tyX2 j) = vp_V [.null, .int (Int32.ofInt 0)] j := by
  intro j hj
  rcases (show j = 0 ∨ j = 1 by omega) with rfl | rfl <;> rfl
theorem kdef_X3 : ∀ j : Nat, j < 4 → defaultValue (tyX3 j) = vp_V [.null, .int (Int32.ofInt 0), .int (Int32.ofInt 0), .int (Int32.ofInt 0)] j := by
  intro j hj
  rcases (show j = 0 ∨ j = 1 ∨ j = 2 ∨ j = 3 by omega) with rfl | rfl | rfl | rfl <;> rfl
theorem kdef_X4 : ∀ j : Nat, j < 8 → defaultValue (tyX4 j) = vp_V [.null, .null, .null, .null, .null, .null, .null, .null] j := by
  intro j hj
  rcases (show j = 0 ∨ j = 1 ∨ j = 2 ∨ j = 3 ∨ j = 4 ∨ j = 5 ∨ j = 6 ∨ j = 7 by omega) with rfl | rfl | rfl | rfl | rfl | rfl | rfl | rfl <;> rfl
theorem kdef_X5 : ∀ j : Nat, j < 11 → defaultValue (tyX5 j) = vp_V [.null, .null, .null, .null, .null, .int (Int32.ofInt 0), .null, .null, .int (Int32.ofInt 0), .int (Int32.ofInt 0), .int (Int32.ofInt 0)] j := by
  intro j hj
  rcases (show j = 0 ∨ j = 1 ∨ j = 2 ∨ j = 3 ∨ j = 4 ∨ j = 5 ∨ j = 6 ∨ j = 7 ∨ j = 8 ∨ j = 9 ∨ j = 10 by omega) with rfl | rfl | rfl | rfl | rfl | rfl | rfl | rfl | rfl | rfl | rfl <;> rfl
theorem lkIX0_28 : jlkI RX0 28 yX2_init cX2_init 1 := ⟨⟨by decide, by decide, by decide +kernel⟩, rfl, (Tb_in (tin1 (List.mem_of_getElem? (i := 65) (by decide +kernel))) (by decide +kernel)), (Tb_in (tin1 (List.mem_of_getElem? (i := 4) (by decide +kernel))) (by decide +kernel)), (Tb_in (tin1 (List.mem_of_getElem? (i := 66) (by decide +kernel))) (by decide +kernel)), by decide, Or.inl (Tb_in (tin1 (List.mem_of_getElem? (i := 64) (by decide +kernel))) (by decide +kernel))⟩
theorem lkIX4_17 : jlkI RX4 17 yX1_init cX1_init 1 := ⟨⟨by decide, by decide, by decide +kernel⟩, rfl, (Tb_in (tin1 (List.mem_of_getElem? (i := 34) (by decide +kernel))) (by decide +kernel)), (Tb_in (tin1 (List.mem_of_getElem? (i := 2) (by decide +kernel))) (by decide +kernel)), (Tb_in (tin1 (List.mem_of_getElem? (i := 35) (by decide +kernel))) (by decide +kernel)), by decide, Or.inr ⟨"Keywright", (Tn_in (tin1 (List.mem_of_getElem? (i := 33) (by decide +kernel))) (by decide +kernel))⟩⟩
theorem lkIX4_24 : jlkI RX4 24 yX0_init cX0_init 2 := ⟨⟨by decide, by decide, by decide +kernel⟩, rfl, (Tb_in (tin1 (List.mem_of_getElem? (i := 59) (by decide +kernel))) (by decide +kernel)), (Tb_in (tin1 (List.mem_of_getElem? (i := 3) (by decide +kernel))) (by decide +kernel)), (Tb_in (tin1 (List.mem_of_getElem? (i := 60) (by decide +kernel))) (by decide +kernel)), by decide, Or.inl (Tb_in (tin1 (List.mem_of_getElem? (i := 58) (by decide +kernel))) (by decide +kernel))⟩
theorem lkIX4_31 : jlkI RX4 31 yX3_init cX3_init 1 := ⟨⟨by decide, by decide, by decide +kernel⟩, rfl, (Tb_in (tin1 (List.mem_of_getElem? (i := 96) (by decide +kernel))) (by decide +kernel)), (Tb_in (tin1 (List.mem_of_getElem? (i := 6) (by decide +kernel))) (by decide +kernel)), (Tb_in (tin1 (List.mem_of_getElem? (i := 97) (by decide +kernel))) (by decide +kernel)), by decide, Or.inr ⟨"Keywright", (Tn_in (tin1 (List.mem_of_getElem? (i := 95) (by decide +kernel))) (by decide +kernel))⟩⟩
theorem lkIX4_36 : jlkI RX4 36 yX2_init cX2_init 1 := ⟨⟨by decide, by decide, by decide +kernel⟩, rfl, (Tb_in (tin1 (List.mem_of_getElem? (i := 65) (by decide +kernel))) (by decide +kernel)), (Tb_in (tin1 (List.mem_of_getElem? (i := 4) (by decide +kernel))) (by decide +kernel)), (Tb_in (tin1 (List.mem_of_getElem? (i := 66) (by decide +kernel))) (by decide +kernel)), by decide, Or.inl (Tb_in (tin1 (List.mem_of_getElem? (i := 113) (by decide +kernel))) (by decide +kernel))⟩
theorem lkIL_166 : jlkI RL 166 yX4_init cX4_init 2 := ⟨⟨by decide, by decide, by decide +kernel⟩, rfl, (Tb_in (tin1 (List.mem_of_getElem? (i := 24) (by decide +kernel))) (by decide +kernel)), (Tb_in (tin1 (List.mem_of_getElem? (i := 1) (by decide +kernel))) (by decide +kernel)), (Tb_in (tin1 (List.mem_of_getElem? (i := 25) (by decide +kernel))) (by decide +kernel)), by decide, Or.inl (Tb_in (tin1 (List.mem_of_getElem? (i := 23) (by decide +kernel))) (by decide +kernel))⟩
theorem lkIL_169 : jlkI RL 169 yX5_init cX5_init 2 := ⟨⟨by decide, by decide, by decide +kernel⟩, rfl, (Tb_in (tin4 (List.mem_of_getElem? (i := 238) (by decide +kernel))) (by decide +kernel)), (Tb_in (tin1 (List.mem_of_getElem? (i := 7) (by decide +kernel))) (by decide +kernel)), (Tb_in (tin4 (List.mem_of_getElem? (i := 239) (by decide +kernel))) (by decide +kernel)), by decide, Or.inl (Tb_in (tin4 (List.mem_of_getElem? (i := 237) (by decide +kernel))) (by decide +kernel))⟩
theorem kmem {α : Type} {a : α} {l : List α} (i : Nat) (h : l[i]? = some a) : a ∈ l := List.mem_of_getElem? h
/-- a row filled -/
def kfl (N : Nat) (v : Int32) : vp_A := (N, .inl (fun _ => v))
def tabC (Y : kX) (h q : Nat) : va_W := [(h, .inr (2, [.ref q, .int (Int32.ofInt 0)])), (q, .inl (kc Y .int, 257, .inl (fun _ => Int32.ofInt (-2))))]
theorem karr_ext {D : va_G} {P L : va_W} {j a N : Nat} {c : ClassId} {f g : Nat → Int32} {H : Heap} {A : Nat → Prop} (he : L[j]? = some (a, .inl (c, N, .inl f))) (h : ∀ i : Nat, i < N → f i = g i) (hP : va_P D jC (P ++ L) H) (hD : va_D A (P ++ L)) : va_P D jC (P ++ L.set j (a, .inl (c, N, .inl g))) H ∧ va_D A (P ++ L.set j (a, .inl (c, N, .inl g))) := by
  rw [← k_set (P := P) (L := L)]
  refine ⟨fun k q hk => ?_, hD.set (k_idx he)⟩
  by_cases e : k = P.length + j
  · subst e
    rw [List.getElem?_set_self (List.getElem?_eq_some_iff.mp (k_idx he)).1] at hk
    cases hk
    have h1 := hP _ _ (k_idx (P := P) he)
    refine Eq.trans (show H[a]? = _ from h1) (congrArg some ?_)
    exact jarr_ext (c := c) (n := N) (f := fun k => .int (f k)) (g := fun k => .int (g k)) (fun i hi => congrArg Value.int (h i hi))
  · rw [List.getElem?_set_ne (Ne.symm e)] at hk
    exact hP k q hk
theorem k_ext {F : jF} {Y : kX} {T : List (ClassId × FieldType)} {P L : va_W} {k n pc : Nat} {lv : List (Nat × Value)} {st : List Value} {a N : Nat} {c : ClassId} {f : Nat → Int32} (j : Nat) (g : Nat → Int32) (he : L[j]? = some (a, .inl (c, N, .inl f))) (h : ∀ i : Nat, i < N → f i = g i) (kk : kG F Y T P (L.set j (a, .inl (c, N, .inl g))) k n pc lv st) : kG F Y T P L k n pc lv st := fun ls H locs hl hK hP hD hS => kk ls H locs hl hK (karr_ext he h hP hD).1 (karr_ext he h hP hD).2 hS
set_option maxHeartbeats 4000000 in
set_option maxRecDepth 100000 in
theorem kc_fill (Y : kX) (a : Nat) (v : Int32) (f : Nat → Int32) : KCon Y yJ7_fill_53178 cJ7_fill_53178 4 1 0 0 [.ref a, .int v] [(kc Y .int, .int)] [(a, .inl (kc Y .int, 257, .inl f))] [] (fun L' => L' = [(a, .inl (kc Y .int, 257, .inl (fun _ => v)))]) := by
  refine KCon.of (by decide) (Nat.le_of_ble_eq_true rfl) (fun pre F hF hQ hr hnm hR => ?_)
  refine k_ico hF (by decide +kernel : decode cJ7_fill_53178 0 = .ok (.iconst 0, 1)) ?_
  refine k_istore hF (by decide +kernel : decode cJ7_fill_53178 1 = .ok (.istore_n 2, 1)) (by decide) ?_
  refine k_aload hF 1 (by decide +kernel : decode cJ7_fill_53178 2 = .ok (.aload_n 0, 1)) rfl ?_
  refine k_alen hF (pre.length + 0) 0 (k_idx (j := 0) rfl) rfl (by decide +kernel : decode cJ7_fill_53178 3 = .ok (.arraylength, 1)) ?_
  refine k_istore hF (by decide +kernel : decode cJ7_fill_53178 4 = .ok (.istore_n 3, 1)) (by decide) ?_
  have loop : ∀ (n i : Nat) (g : Nat → Int32), i ≤ 257 → 258 ≤ i + n → (∀ k : Nat, k < i → g k = v) → kG F Y [(kc Y .int, .int)] pre [(a, .inl (kc Y .int, 257, .inl g))] 0 0 5 [(3, .int (Int32.ofInt 257)), (2, .int (Int32.ofInt (i : Int))), (0, .ref a), (1, .int v)] [] := by
    intro n
    induction n with
    | zero => intro i g h1 h2; exact absurd h2 (by omega)
    | succ n ih =>
      intro i g h1 h2 hg
      refine k_iload hF 1 (by decide +kernel : decode cJ7_fill_53178 5 = .ok (.iload_n 2, 1)) rfl ?_
      refine k_iload hF 0 (by decide +kernel : decode cJ7_fill_53178 6 = .ok (.iload_n 3, 1)) rfl ?_
      refine k_ge hF (tgt := 20) (by decide +kernel : decode cJ7_fill_53178 7 = .ok (.if_icmp .ge 13, 3)) (by decide) (by omega) (by decide) (fun c => ?_) (fun c => ?_)
      · refine k_ext 0 (fun _ => v) rfl (fun k hk => hg k (by omega)) ?_
        exact k_ret hF hQ hr (Nat.le_refl _) (Nat.le_refl _) (fun q h => absurd h List.not_mem_nil) (by decide +kernel : decode cJ7_fill_53178 20 = .ok (.return_, 1)) ⟨_, rfl, rfl⟩
      · refine k_aload hF 2 (by decide +kernel : decode cJ7_fill_53178 10 = .ok (.aload_n 0, 1)) rfl ?_
        refine k_iload hF 1 (by decide +kernel : decode cJ7_fill_53178 11 = .ok (.iload_n 2, 1)) rfl ?_
        refine k_iload hF 3 (by decide +kernel : decode cJ7_fill_53178 12 = .ok (.iload_n 1, 1)) rfl ?_
        refine k_iast hF 0 0 rfl rfl (z := (i : Int)) (by omega) (by omega) (by decide +kernel : decode cJ7_fill_53178 13 = .ok (.iastore, 1)) ?_
        refine k_iinc hF 1 (by decide +kernel : decode cJ7_fill_53178 14 = .ok (.iinc 2 1, 3)) rfl (by decide) ?_
        refine k_goto hF (tgt := 5) (by decide +kernel : decode cJ7_fill_53178 17 = .ok (.goto (-12), 3)) (by decide) ?_
        refine k_l (lv2 := [(3, .int (Int32.ofInt 257)), (2, .int (Int32.ofInt ((i + 1 : Nat) : Int))), (0, .ref a), (1, .int v)]) (List.forall_mem_cons.mpr ⟨kmem 1 rfl, List.forall_mem_cons.mpr ⟨kmem 0 rfl, List.forall_mem_cons.mpr ⟨kmem 2 rfl, List.forall_mem_cons.mpr ⟨kmem 3 rfl, fun _ h => absurd h List.not_mem_nil⟩⟩⟩⟩) ?_
        refine ih (i + 1) _ (by omega) (by omega) (fun k hk => ?_)
        unfold upd
        by_cases e : k = (i : Int).toNat
        · rw [if_pos e]
        · rw [if_neg e]
          exact hg k (by omega)
  exact loop 258 0 f (by omega) (by omega) (fun k hk => absurd hk (by omega))
set_option maxHeartbeats 4000000 in
set_option maxRecDepth 100000 in
theorem kc_X2_init (Y : kX) (h : Nat) : KCon Y yX2_init cX2_init 1 3 1 257 [.ref h] [] [(h, .inr (2, [.null, .int (Int32.ofInt 0)]))] [(kc Y .int, .int)] (fun L' => ∃ q : Nat, L' = tabC Y h q) := by
  refine KCon.of (by decide) (Nat.le_of_ble_eq_true rfl) (fun pre F hF hQ hr hnm hR => ?_)
  refine k_aload hF 0 (by decide +kernel : decode cX2_init 0 = .ok (.aload_n 0, 1)) rfl ?_
  refine k_obj hF (Tb_in (tin1 (List.mem_of_getElem? (i := 67) (by decide +kernel))) (by decide +kernel)) koin koco (by decide) (by decide +kernel : decode cX2_init 1 = .ok (.invokespecial 3, 3)) ?_
  refine k_aload hF 0 (by decide +kernel : decode cX2_init 4 = .ok (.aload_n 0, 1)) rfl ?_
  refine k_sip hF (by decide +kernel : decode cX2_init 5 = .ok (.sipush 257, 3)) (by decide) ?_
  refine k_newarr hF (atype := .int) (ty := .int) rfl kac_int (257, .inl (fun _ => Int32.ofInt 0)) (N := 257) rfl (by decide) (fun _ => rfl) (by decide) (by rw [hR]; exact Nat.le_of_ble_eq_true rfl) (by rw [hR]; exact Nat.le_of_ble_eq_true rfl) (by decide +kernel : decode cX2_init 8 = .ok (.newarray .int, 2)) (fun q8 => ?_)
  refine k_putF hF (hnm.trans rfl) 0 rfl (T0 := TX2) (N := 2) (ci := 2) rfl 0 (by decide) (Tb_in (tin1 (List.mem_of_getElem? (i := 71) (by decide +kernel))) (by decide +kernel)) rfl rfl (ty := .array .int) (by decide +kernel) rfl rfl (by simp) (by decide +kernel : decode cX2_init 10 = .ok (.putfield 9, 3)) ?_
  refine k_aload hF 0 (by decide +kernel : decode cX2_init 13 = .ok (.aload_n 0, 1)) rfl ?_
  refine k_ico hF (by decide +kernel : decode cX2_init 14 = .ok (.iconst 0, 1)) ?_
  refine k_put hF 0 rfl (T0 := TX2) (N := 2) (ci := 2) rfl 1 (by decide) (Tb_in (tin1 (List.mem_of_getElem? (i := 72) (by decide +kernel))) (by decide +kernel)) rfl (ty := .int) (by decide +kernel) rfl rfl (by simp) (by decide +kernel : decode cX2_init 15 = .ok (.putfield 15, 3)) ?_
  refine k_aload hF 0 (by decide +kernel : decode cX2_init 18 = .ok (.aload_n 0, 1)) rfl ?_
  refine k_get hF 0 rfl (T0 := TX2) (N := 2) (ci := 2) rfl 0 (by decide) (Tb_in (tin1 (List.mem_of_getElem? (i := 71) (by decide +kernel))) (by decide +kernel)) rfl (by decide +kernel : decode cX2_init 19 = .ok (.getfield 9, 3)) ?_
  refine k_bip hF (by decide +kernel : decode cX2_init 22 = .ok (.bipush (-2), 2)) (by decide) ?_
  refine k_callS hF lkX2_19 1 rfl (by intro q hq; simpa using hq) (kc_fill Y q8 (Int32.ofInt (-2)) (fun _ => Int32.ofInt 0)) (by decide +kernel : decode cX2_init 24 = .ok (.invokestatic 19, 3)) (by decide) rfl rfl (by decide) (by rw [hR]; exact Nat.le_of_ble_eq_true rfl) (by rw [hR]; exact Nat.le_of_ble_eq_true rfl) (fun L24 h24 => ?_)
  subst h24
  exact k_ret hF hQ hr (Nat.le_refl _) (Nat.le_refl _) (by intro q hq; simpa using hq) (by decide +kernel : decode cX2_init 27 = .ok (.return_, 1)) ⟨_, ⟨q8, rfl⟩, rfl⟩
def rowC (Y : kX) (h a b c e : Nat) : va_W := [(h, .inr (1, [.ref a, .ref b, .ref c, .ref e, .int (Int32.ofInt 0)])), (a, .inl (kc Y .int, 60, .inl (fun _ => Int32.ofInt 0))), (b, .inl (kc Y .int, 60, .inl (fun _ => Int32.ofInt 0))), (c, .inl (kc Y .boolean, 257, .inl (fun _ => Int32.ofInt 0))), (e, .inl (kc Y .int, 32, .inl (fun _ => Int32.ofInt 0)))]
set_option maxHeartbeats 4000000 in
set_option maxRecDepth 100000 in
theorem kc_X1_init (Y : kX) (h : Nat) : KCon Y yX1_init cX1_init 1 2 4 409 [.ref h] [] [(h, .inr (1, [.null, .null, .null, .null, .int (Int32.ofInt 0)]))] [(kc Y .int, .int), (kc Y .int, .int), (kc Y .boolean, .boolean), (kc Y .int, .int)] (fun L' => ∃ a b c e : Nat, L' = rowC Y h a b c e) := by
  refine KCon.of (by decide) (Nat.le_of_ble_eq_true rfl) (fun pre F hF hQ hr hnm hR => ?_)
  refine k_aload hF 0 (by decide +kernel : decode cX1_init 0 = .ok (.aload_n 0, 1)) rfl ?_
  refine k_obj hF (Tb_in (tin1 (List.mem_of_getElem? (i := 36) (by decide +kernel))) (by decide +kernel)) koin koco (by decide) (by decide +kernel : decode cX1_init 1 = .ok (.invokespecial 3, 3)) ?_
  refine k_aload hF 0 (by decide +kernel : decode cX1_init 4 = .ok (.aload_n 0, 1)) rfl ?_
  refine k_bip hF (by decide +kernel : decode cX1_init 5 = .ok (.bipush 60, 2)) (by decide) ?_
  refine k_newarr hF (atype := .int) (ty := .int) rfl kac_int (60, .inl (fun _ => Int32.ofInt 0)) (N := 60) rfl (by decide) (fun _ => rfl) (by decide) (by rw [hR]; exact Nat.le_of_ble_eq_true rfl) (by rw [hR]; exact Nat.le_of_ble_eq_true rfl) (by decide +kernel : decode cX1_init 7 = .ok (.newarray .int, 2)) (fun q7 => ?_)
  refine k_putF hF (hnm.trans rfl) 0 rfl (T0 := TX1) (N := 5) (ci := 1) rfl 0 (by decide) (Tb_in (tin1 (List.mem_of_getElem? (i := 37) (by decide +kernel))) (by decide +kernel)) rfl rfl (ty := .array .int) (by decide +kernel) rfl rfl (by simp) (by decide +kernel : decode cX1_init 9 = .ok (.putfield 9, 3)) ?_
  refine k_aload hF 0 (by decide +kernel : decode cX1_init 12 = .ok (.aload_n 0, 1)) rfl ?_
  refine k_bip hF (by decide +kernel : decode cX1_init 13 = .ok (.bipush 60, 2)) (by decide) ?_
  refine k_newarr hF (atype := .int) (ty := .int) rfl kac_int (60, .inl (fun _ => Int32.ofInt 0)) (N := 60) rfl (by decide) (fun _ => rfl) (by decide) (by rw [hR]; exact Nat.le_of_ble_eq_true rfl) (by rw [hR]; exact Nat.le_of_ble_eq_true rfl) (by decide +kernel : decode cX1_init 15 = .ok (.newarray .int, 2)) (fun q15 => ?_)
  refine k_putF hF (hnm.trans rfl) 0 rfl (T0 := TX1) (N := 5) (ci := 1) rfl 1 (by decide) (Tb_in (tin1 (List.mem_of_getElem? (i := 38) (by decide +kernel))) (by decide +kernel)) rfl rfl (ty := .array .int) (by decide +kernel) rfl rfl (by simp) (by decide +kernel : decode cX1_init 17 = .ok (.putfield 15, 3)) ?_
  refine k_aload hF 0 (by decide +kernel : decode cX1_init 20 = .ok (.aload_n 0, 1)) rfl ?_
  refine k_sip hF (by decide +kernel : decode cX1_init 21 = .ok (.sipush 257, 3)) (by decide) ?_
  refine k_newarr hF (atype := .boolean) (ty := .boolean) rfl kac_boolean (257, .inl (fun _ => Int32.ofInt 0)) (N := 257) rfl (by decide) (fun _ => rfl) (by decide) (by rw [hR]; exact Nat.le_of_ble_eq_true rfl) (by rw [hR]; exact Nat.le_of_ble_eq_true rfl) (by decide +kernel : decode cX1_init 24 = .ok (.newarray .boolean, 2)) (fun q24 => ?_)
  refine k_putF hF (hnm.trans rfl) 0 rfl (T0 := TX1) (N := 5) (ci := 1) rfl 2 (by decide) (Tb_in (tin1 (List.mem_of_getElem? (i := 39) (by decide +kernel))) (by decide +kernel)) rfl rfl (ty := .array .boolean) (by decide +kernel) rfl rfl (by simp) (by decide +kernel : decode cX1_init 26 = .ok (.putfield 18, 3)) ?_
  refine k_aload hF 0 (by decide +kernel : decode cX1_init 29 = .ok (.aload_n 0, 1)) rfl ?_
  refine k_bip hF (by decide +kernel : decode cX1_init 30 = .ok (.bipush 32, 2)) (by decide) ?_
  refine k_newarr hF (atype := .int) (ty := .int) rfl kac_int (32, .inl (fun _ => Int32.ofInt 0)) (N := 32) rfl (by decide) (fun _ => rfl) (by decide) (by rw [hR]; exact Nat.le_of_ble_eq_true rfl) (by rw [hR]; exact Nat.le_of_ble_eq_true rfl) (by decide +kernel : decode cX1_init 32 = .ok (.newarray .int, 2)) (fun q32 => ?_)
  refine k_putF hF (hnm.trans rfl) 0 rfl (T0 := TX1) (N := 5) (ci := 1) rfl 3 (by decide) (Tb_in (tin1 (List.mem_of_getElem? (i := 40) (by decide +kernel))) (by decide +kernel)) rfl rfl (ty := .array .int) (by decide +kernel) rfl rfl (by simp) (by decide +kernel : decode cX1_init 34 = .ok (.putfield 22, 3)) ?_
  refine k_aload hF 0 (by decide +kernel : decode cX1_init 37 = .ok (.aload_n 0, 1)) rfl ?_
  refine k_ico hF (by decide +kernel : decode cX1_init 38 = .ok (.iconst 0, 1)) ?_
  refine k_put hF 0 rfl (T0 := TX1) (N := 5) (ci := 1) rfl 4 (by decide) (Tb_in (tin1 (List.mem_of_getElem? (i := 41) (by decide +kernel))) (by decide +kernel)) rfl (ty := .int) (by decide +kernel) rfl rfl (by simp) (by decide +kernel : decode cX1_init 39 = .ok (.putfield 25, 3)) ?_
  exact k_ret hF hQ hr (Nat.le_refl _) (Nat.le_refl _) (by intro q hq; exact hq) (by decide +kernel : decode cX1_init 42 = .ok (.return_, 1)) ⟨_, ⟨q7, q15, q24, q32, rfl⟩, rfl⟩
def walkC (Y : kX) (h q : Nat) : va_W := [(h, .inr (3, [.ref q, .int (Int32.ofInt 0), .int (Int32.ofInt (-2)), .int (Int32.ofInt 0)])), (q, .inl (kc Y .int, 257, .inl (fun _ => Int32.ofInt 0)))]
set_option maxHeartbeats 4000000 in
set_option maxRecDepth 100000 in
theorem kc_X3_init (Y : kX) (h : Nat) : KCon Y yX3_init cX3_init 1 2 1 257 [.ref h] [] [(h, .inr (3, [.null, .int (Int32.ofInt 0), .int (Int32.ofInt 0), .int (Int32.ofInt 0)]))] [(kc Y .int, .int)] (fun L' => ∃ q : Nat, L' = walkC Y h q) := by
  refine KCon.of (by decide) (Nat.le_of_ble_eq_true rfl) (fun pre F hF hQ hr hnm hR => ?_)
  refine k_aload hF 0 (by decide +kernel : decode cX3_init 0 = .ok (.aload_n 0, 1)) rfl ?_
  refine k_obj hF (Tb_in (tin1 (List.mem_of_getElem? (i := 98) (by decide +kernel))) (by decide +kernel)) koin koco (by decide) (by decide +kernel : decode cX3_init 1 = .ok (.invokespecial 3, 3)) ?_
  refine k_aload hF 0 (by decide +kernel : decode cX3_init 4 = .ok (.aload_n 0, 1)) rfl ?_
  refine k_sip hF (by decide +kernel : decode cX3_init 5 = .ok (.sipush 257, 3)) (by decide) ?_
  refine k_newarr hF (atype := .int) (ty := .int) rfl kac_int (257, .inl (fun _ => Int32.ofInt 0)) (N := 257) rfl (by decide) (fun _ => rfl) (by decide) (by rw [hR]; exact Nat.le_of_ble_eq_true rfl) (by rw [hR]; exact Nat.le_of_ble_eq_true rfl) (by decide +kernel : decode cX3_init 8 = .ok (.newarray .int, 2)) (fun q8 => ?_)
  refine k_putF hF (hnm.trans rfl) 0 rfl (T0 := TX3) (N := 4) (ci := 3) rfl 0 (by decide) (Tb_in (tin1 (List.mem_of_getElem? (i := 99) (by decide +kernel))) (by decide +kernel)) rfl rfl (ty := .array .int) (by decide +kernel) rfl rfl (by simp) (by decide +kernel : decode cX3_init 10 = .ok (.putfield 9, 3)) ?_
  refine k_aload hF 0 (by decide +kernel : decode cX3_init 13 = .ok (.aload_n 0, 1)) rfl ?_
  refine k_ico hF (by decide +kernel : decode cX3_init 14 = .ok (.iconst 0, 1)) ?_
  refine k_put hF 0 rfl (T0 := TX3) (N := 4) (ci := 3) rfl 1 (by decide) (Tb_in (tin1 (List.mem_of_getElem? (i := 100) (by decide +kernel))) (by decide +kernel)) rfl (ty := .int) (by decide +kernel) rfl rfl (by simp) (by decide +kernel : decode cX3_init 15 = .ok (.putfield 15, 3)) ?_
  refine k_aload hF 0 (by decide +kernel : decode cX3_init 18 = .ok (.aload_n 0, 1)) rfl ?_
  refine k_bip hF (by decide +kernel : decode cX3_init 19 = .ok (.bipush (-2), 2)) (by decide) ?_
  refine k_put hF 0 rfl (T0 := TX3) (N := 4) (ci := 3) rfl 2 (by decide) (Tb_in (tin1 (List.mem_of_getElem? (i := 102) (by decide +kernel))) (by decide +kernel)) rfl (ty := .int) (by decide +kernel) rfl rfl (by simp) (by decide +kernel : decode cX3_init 21 = .ok (.putfield 19, 3)) ?_
  refine k_aload hF 0 (by decide +kernel : decode cX3_init 24 = .ok (.aload_n 0, 1)) rfl ?_
  refine k_ico hF (by decide +kernel : decode cX3_init 25 = .ok (.iconst 0, 1)) ?_
  refine k_put hF 0 rfl (T0 := TX3) (N := 4) (ci := 3) rfl 3 (by decide) (Tb_in (tin1 (List.mem_of_getElem? (i := 103) (by decide +kernel))) (by decide +kernel)) rfl (ty := .boolean) (by decide +kernel) rfl rfl (by simp) (by decide +kernel : decode cX3_init 26 = .ok (.putfield 22, 3)) ?_
  exact k_ret hF hQ hr (Nat.le_refl _) (Nat.le_refl _) (by intro q hq; exact hq) (by decide +kernel : decode cX3_init 29 = .ok (.return_, 1)) ⟨_, ⟨q8, rfl⟩, rfl⟩

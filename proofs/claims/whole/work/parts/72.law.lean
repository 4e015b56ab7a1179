/-! THE CLAIM OUT OF ONE WALK OF THE LAW'S BODY. Your part is whole_start (and what it stands on); all else here is the same for every law, but numbers. -/
def R_law : String := "KeywrightLaw"
def lw_P (b : Addr) (xs : List Int32) (args : Array Value) (s : State) : Prop := args = #[.ref b] ∧ s.IntsAt b xs ∧ xs.length ≤ 2560 ∧ (Jvm.Cond.and given_1 narrow_1).before args s = true
/-- what a walk over the start with the record d0 says of its end, said of the start itself -/
theorem lw_closed {s t : State} {o : Outcome} {d0 : Drawn} {L : List Loc} {k n : Nat} (hd0 : s.drawn.sameBut d0 lw_cs) (hv : ∃ v, o = .returned v) (hW : (s.setDrawn d0).WarmedH t.vm) (hs : (s.setDrawn d0).sameButNew ({ t with vm := s.vm } : State) L k n) : State.butDraws s t lw_cs (fun t1 => Framed s o t1 L k n) := by
  have h2 : t.drawn = d0 := congrArg State.drawn hs.1
  refine ⟨⟨hv, hW, State.sameButNew.setDrawn hs s.drawn⟩, ?_, by decide⟩
  rw [h2]
  exact hd0
def lw_Q (_ : Array Value) (s : State) (o : Outcome) (t : State) : Prop := o = .returned (some (.int 1)) ∧ State.butDraws s t lw_cs (fun t1 => Framed s o t1 [] 603072 7227498)
def lw_Z (below : List Frame) (a : Array Value) (s : State) : State → Prop := fun t => ∃ o, t.status = .running ∧ Ended t below o ∧ lw_Q a s o t
/-- the law's own end, with 1 on the stack, nothing written that was there before, its room as the claim has it; d0: the record of draws at this point (at the entry s.drawn: begin with 'refine W.base ?_' and 'have hd0 := Drawn.sameBut.refl s.drawn lw_cs') -/
theorem lw_ret {p : Program} {l : Launch} {e : Env} {s : State} {m : MethodId} {below : List Frame} {meth : Method} {c : Code} {b : Nat} {d0 : Drawn} (hd0 : s.drawn.sameBut d0 lw_cs) (hx : p.tables.exec = Jvm.exec) (hb : c.code = code) (hr : meth.sig.returnType = ret) (hlocks : meth.locks = false) {pc : Nat} {H : Heap} {ls : Array Slot} (hdg : decode code pc = .ok (.ireturn, 1)) : W p l e room_1 (s.setDrawn d0) m #[Value.ref b] below meth c H [] 603072 7227498 (lw_Z below #[Value.ref b] s) (F0 m pc ls [.int 1]) := by
  intro T hT X
  obtain ⟨fs, hret, hrun, hended, hW, hframe⟩ := X.leave (v := some (.int 1)) (hlocks := hlocks) (fun h => by rw [hr] at h; cases h)
  have hmeth' : T.vm.method? m = some meth := X.method'
  refine ⟨T.setFrames fs, ?_, .returned (some (.int 1)), hrun, hended, rfl, lw_closed hd0 ⟨_, rfl⟩ hW hframe⟩
  jvm_step X.here [X.here.top, hx, hb, hdg, hmeth', hr, ret, narrow_b1]
  (try refine ⟨rfl, ?_⟩); (try refine ⟨rfl, ?_⟩)
  first | (intro acts; rw [hret _ acts rfl rfl rfl]) | rw [hret _ _ rfl rfl rfl]
  exact Steps.refl _
/-- what holds at the law's entry: the machine, the code, the tables' words (any of lw_tbl by 'hts w (by decide +kernel)'), the script of L ints xs at the cell b, what the Statement gives of the start (any of its parts by flat_of_before) -/
def lw_At (p : Program) (s : State) (m : MethodId) (meth : Method) (c : Code) (b L : Nat) (xs : Nat → Int32) : Prop :=
  p.tables.exec = Jvm.exec ∧ c.code = code ∧ meth.sig.returnType = ret ∧ c.maxLocals = 10 ∧ s.vm.findClass R_law = some m.cls ∧ (∀ w ∈ lw_tbl, w.before #[Value.ref b] s = true) ∧ va_X b L xs s s.heap ∧ b < s.heap.size ∧ meth.locks = false ∧ (Jvm.Cond.and given_1 narrow_1).before #[Value.ref b] s = true
theorem va_RA_find {U : State} {c : ClassId} {ty : FieldType} (h : va_RA U c ty) : U.vm.findClass ("[" ++ ty.toString) = some c := by
  cases ty with
  | object C => obtain ⟨kA, comp, h1, h2, h3, h4⟩ := h; exact h4
  | _ => exact h
theorem j_str : ∀ q ∈ jStr, Cond.stringRef q.1 q.2.1 q.2.2 ∈ lw_tbl := by decide +kernel
theorem j_exa : ∀ q ∈ jStr, Cond.exactly (Term.string q.1 q.2.1) "java/lang/String" ∈ flatC (Cond.and given_1 narrow_1) := by decide +kernel
theorem j_not : ∀ q ∈ jNc, Cond.not (.castable q.1 q.2) ∈ flatC (Cond.and given_1 narrow_1) := by decide +kernel
set_option maxHeartbeats 8000000 in
set_option maxRecDepth 100000 in
/-- from the world with all cells on: the law's loop -/
theorem law_go {p : Program} {e : Env} {s : State} {m : MethodId} {below : List Frame} {meth : Method} {c : Code} (l : Launch) (hst : l.stackTraces = false) {b0 L : Nat} {xs : Nat → Int32} (hL : L ≤ 2560) (C0 : lw_At p s m meth c b0 L xs) (Y : kX) (hYl : kl Y = l) (hYA : kA Y = fun q => s.heap.size ≤ q) (h mq tal r0 r1 r2 r3 r4 p0 p1 p2 w0 w1 d0 d1 s0 s1 h0 h1 mh ma mb mc me mf mg ml lq dq : Nat) (pt pu t u : Nat → Nat) (H : Heap) (locs : List Loc) (ls : Array Slot)
    (hl : lv_has ls c.maxLocals [(0, .ref b0), (1, .ref h), (2, .ref mh), (3, .ref lq), (4, .ref dq), (5, .int (Int32.ofInt 0))]) (hK : va_K (kD Y) jC [(kc Y .int, .int), (kc Y .boolean, .boolean), (kc Y (.object RX2), .object RX2), (kc Y .long, .long), (kc Y .double, .double)] s) (hP : va_P (kD Y) jC (W61 Y h mq tal r0 r1 r2 r3 r4 p0 p1 p2 w0 w1 d0 d1 s0 s1 h0 h1 mh ma mb mc me mf mg ml lq dq pt pu t u) H) (hD : va_D (kA Y) (W61 Y h mq tal r0 r1 r2 r3 r4 p0 p1 p2 w0 w1 d0 d1 s0 s1 h0 h1 mh ma mb mc me mf mg ml lq dq pt pu t u)) (hS : va_S (kA Y) s.heap H locs) :
    W p l e room_1 s m #[Value.ref b0] below meth c H locs 61 10656 (lw_Z below #[Value.ref b0] s) (F0 m 28 ls []) := by
  obtain ⟨hx, hb, hr, hml, hown, hts, hX, hbl, hlocks, hgv⟩ := id C0
  subst hYl
  have hTb : ∀ w ∈ Tb, w.before #[Value.ref b0] s = true := fun w h => hts w (List.mem_filter.mp h).1
  have hTn : ∀ v ∈ Tn, va_Nw v s := fun v hv => va_Nw.of (jkN_tabs (List.mem_filter.mp hv).2) (hts v (List.mem_filter.mp hv).1)
  have hflat := flat_of_before _ hgv
  obtain ⟨X, eX⟩ : ∃ X : jX, X = (kl Y, kD Y, (fun i => if i = 0 then kc Y .int else if i = 1 then kc Y .boolean else if i = 2 then kc Y (.object RX2) else if i = 3 then kc Y .long else kc Y .double), (fun j => (adr61 h mq tal r0 r1 r2 r3 r4 p0 p1 p2 w0 w1 d0 d1 s0 s1 h0 h1 mh ma mb mc me mf mg ml lq dq b0 pt pu t u).getD j 0), s.heap.size) := ⟨_, rfl⟩
  have hjA : jA X = kA Y := by rw [hYA, eX]; rfl
  have hXok : jxok X := by
    subst eX
    refine ⟨fun i j hi hj hij => ?_, fun i hi => ?_, hst⟩
    · obtain ⟨e1, g1⟩ := at61 Y h mq tal r0 r1 r2 r3 r4 p0 p1 p2 w0 w1 d0 d1 s0 s1 h0 h1 mh ma mb mc me mf mg ml lq dq b0 pt pu t u 0 i hi
      obtain ⟨e2, g2⟩ := at61 Y h mq tal r0 r1 r2 r3 r4 p0 p1 p2 w0 w1 d0 d1 s0 s1 h0 h1 mh ma mb mc me mf mg ml lq dq b0 pt pu t u 0 j hj
      exact pos61_inj i hi j hj (hD.1 _ _ _ _ g1 g2 hij)
    · obtain ⟨e1, g1⟩ := at61 Y h mq tal r0 r1 r2 r3 r4 p0 p1 p2 w0 w1 d0 d1 s0 s1 h0 h1 mh ma mb mc me mf mg ml lq dq b0 pt pu t u 0 i hi
      have h9 := hD.2 _ _ g1
      rw [hYA] at h9
      exact h9
  have hwl : va_P (xD X) jC (wl X m00) H := by
    intro k q hk
    have hlt : k < 61 := by
      have := (List.getElem?_eq_some_iff.mp hk).1
      rw [wl_len] at this
      exact this
    rw [wl_get X m00 hlt] at hk
    cases hk
    subst eX
    exact cell61 Y h mq tal r0 r1 r2 r3 r4 p0 p1 p2 w0 w1 d0 d1 s0 s1 h0 h1 mh ma mb mc me mf mg ml lq dq b0 pt pu t u s.heap.size H hP k hlt
  have hZ : jZ X s := by
    refine ⟨hTn, fun q hq => ?_, fun q hq => va_Nc.of (hflat _ (j_not q hq)), ?_, ?_⟩
    · obtain ⟨a, -, -, -, q1, -⟩ := Cond.exactly_spec (hflat _ (j_exa q hq))
      exact ⟨a, vk_R.of (hts _ (j_str q hq)) q1⟩
    · exact vx_Zqof (hts _ (by decide +kernel)) (hts _ (by decide +kernel)) (hflat _ (by decide +kernel)) (fun a ha q => by rw [hjA, hYA] at q; exact absurd (show s.heap.size ≤ a from q) (by omega))
    · exact vx_Zqof (hts _ (by decide +kernel)) (hts _ (by decide +kernel)) (hflat _ (by decide +kernel)) (fun a ha q => by rw [hjA, hYA] at q; exact absurd (show s.heap.size ≤ a from q) (by omega))
  have hKX : va_K (xD X) jC (jT X) s := by subst eX; exact hK
  have hF : jOk (p, e, room_1, s, m, #[Value.ref b0], below, meth, c, 0, 0, lw_Z below #[Value.ref b0] s) X RL cL_law 10 (some .boolean) 20 := ⟨hx, hb, hml, hown, hTb, hKX, hZ, by subst eX; exact Nat.le_refl _, hr, hlocks, hXok, Nat.le_of_ble_eq_true rfl, Nat.le_of_ble_eq_true rfl, Nat.zero_le _, Nat.zero_le _⟩
  have hsc : jScr (p, e, room_1, s, m, #[Value.ref b0], below, meth, c, 0, 0, lw_Z below #[Value.ref b0] s) X L xs := by
    subst eX
    exact ⟨hX, hbl, hbl, hL⟩
  have hend : ∀ (k n : Nat) (mm : jM), k ≤ room_1.cells → n ≤ room_1.slots → jG (fup (p, e, room_1, s, m, #[Value.ref b0], below, meth, c, 0, 0, lw_Z below #[Value.ref b0] s) k n) X mm 3457 [] [] := by
    intro k n mm hk hn ls H locs hl hP hS
    have e2 : xl X = kl Y := by rw [eX]
    show W p (xl X) e room_1 s m #[Value.ref b0] below meth c H locs k n (lw_Z below #[Value.ref b0] s) (F0 m 3457 ls [])
    rw [e2]
    refine lv_iconst (v := 1) hx hb (by decide +kernel : decode cL_law 3457 = .ok (.iconst 1, 1)) (by decide) ?_
    refine va_forget (fun q hq => ?_) ?_
    · have h9 := hS.2.2 q hq
      rw [hjA, hYA] at h9
      exact h9
    · refine W.widen (k := 603072) (n := 7227498) hk hn ?_
      refine W.base ?_
      exact lw_ret (Drawn.sameBut.refl s.drawn lw_cs) hx hb hr hlocks (by decide +kernel : decode cL_law 3458 = .ok (.ireturn, 1))
  have hgo := law_loop hF hXok hsc hend (L + 1) 0 61 10656 m00 (by omega) (Nat.zero_le _) (by show 61 + (L + 1) ≤ 603072; omega) (by show 10656 + 6 * (L + 1) ≤ 7227498; omega) Rel_00 ls H locs (by subst eX; exact hl) hwl (by rw [hjA]; exact hS)
  have e2 : xl X = kl Y := by rw [eX]
  unfold jW at hgo
  rw [e2] at hgo
  exact hgo
set_option maxHeartbeats 8000000 in
set_option maxRecDepth 100000 in
/-- YOUR PART: from the entry, for every script of at most 2560 ints, the law comes to its end with true -/
theorem whole_start {p : Program} {e : Env} {s : State} {m : MethodId} {below : List Frame} {meth : Method} {c : Code} (l : Launch) (hflags : l.flags = flags0) {b L : Nat} {xs : Nat → Int32} (hL : L ≤ 2560) (C0 : lw_At p s m meth c b L xs) : W p l e room_1 s m #[Value.ref b] below meth c s.heap [] 0 0 (lw_Z below #[Value.ref b] s) (entryFrame m ([Value.ref b] : List Value).toArray 10) := by
  obtain ⟨hx, hb, hr, hml, hown, hts, hX, hbl, hlocks, hgv⟩ := id C0
  have hst : l.stackTraces = false := by unfold Launch.stackTraces; rw [hflags]; decide +kernel
  have hTb : ∀ w ∈ Tb, w.before #[Value.ref b] s = true := fun w h => hts w (List.mem_filter.mp h).1
  have hTn : ∀ v ∈ Tn, va_Nw v s := fun v hv => va_Nw.of (jkN_tabs (List.mem_filter.mp hv).2) (hts v (List.mem_filter.mp hv).1)
  obtain ⟨c0, i0, K0⟩ := u_known (C := RX0) (T := TX0) (N := 4) (n := 4) hTb (jC_in (RX0, TX0, 4) (kmem 0 rfl)) (hTb _ kin_X0)
  obtain ⟨c1, i1, K1⟩ := u_known (C := RX1) (T := TX1) (N := 5) (n := 5) hTb (jC_in (RX1, TX1, 5) (kmem 1 rfl)) (hTb _ kin_X1)
  obtain ⟨c2, i2, K2⟩ := u_known (C := RX2) (T := TX2) (N := 2) (n := 2) hTb (jC_in (RX2, TX2, 2) (kmem 2 rfl)) (hTb _ kin_X2)
  obtain ⟨c3, i3, K3⟩ := u_known (C := RX3) (T := TX3) (N := 4) (n := 4) hTb (jC_in (RX3, TX3, 4) (kmem 3 rfl)) (hTb _ kin_X3)
  obtain ⟨c4, i4, K4⟩ := u_known (C := RX4) (T := TX4) (N := 8) (n := 8) hTb (jC_in (RX4, TX4, 8) (kmem 4 rfl)) (hTb _ kin_X4)
  obtain ⟨c5, i5, K5⟩ := u_known (C := RX5) (T := TX5) (N := 11) (n := 11) hTb (jC_in (RX5, TX5, 11) (kmem 5 rfl)) (hTb _ kin_X5)
  obtain ⟨dC, dI, hKc⟩ : ∃ (dC : Nat → ClassId) (dI : Nat → Nat → Nat), ∀ (k : Nat) (q : vw_C), jC[k]? = some q → u_Kn s q.1 q.2.1 q.2.2 (dC k) (dI k) := by
    refine ⟨fun k => if k = 0 then c0 else if k = 1 then c1 else if k = 2 then c2 else if k = 3 then c3 else if k = 4 then c4 else c5, fun k => if k = 0 then i0 else if k = 1 then i1 else if k = 2 then i2 else if k = 3 then i3 else if k = 4 then i4 else i5, ?_⟩
    intro k q hq
    match k, hq with
    | 0, hq => cases hq; exact K0
    | 1, hq => cases hq; exact K1
    | 2, hq => cases hq; exact K2
    | 3, hq => cases hq; exact K3
    | 4, hq => cases hq; exact K4
    | 5, hq => cases hq; exact K5
    | k + 6, hq => simp at hq
  have hK0 : va_K (dC, dI) jC [] s := ⟨hKc, fun k q h => by simp at h⟩
  obtain ⟨cf, hcf⟩ : ∃ cf : FieldType → ClassId, ∀ (ty : FieldType) (c : ClassId), va_RA s c ty → c = cf ty := by
    refine ⟨fun ty => (s.vm.findClass ("[" ++ ty.toString)).getD c0, fun ty c h => ?_⟩
    show c = (s.vm.findClass ("[" ++ ty.toString)).getD c0
    rw [va_RA_find h]
    rfl
  obtain ⟨Y, eY⟩ : ∃ Y : kX, Y = (l, (dC, dI), cf, fun q => s.heap.size ≤ q) := ⟨_, rfl⟩
  have hF : kOk (p, e, room_1, s, m, #[Value.ref b], below, meth, c, 0, 0, lw_Z below #[Value.ref b] s) Y RL cL_law 10 20 := by
    subst eY
    exact ⟨hx, hb, hml, hown, hTb, fun q h => h, hTn, va_AO.of (hts (.arrayOver (.object RX2)) (by decide +kernel)), hcf, hlocks, Nat.le_of_ble_eq_true rfl, Nat.le_of_ble_eq_true rfl⟩
  have key : kG (p, e, room_1, s, m, #[Value.ref b], below, meth, c, 0, 0, lw_Z below #[Value.ref b] s) Y [] [] [] 0 0 0 [(0, .ref b)] [] := by
    refine k_new hF (ci := 4) (T0 := TX4) (N := 8) rfl tyX4 tyX4_ok clL_8 kin_X4 kini_X4 kdef_X4 (Nat.le_of_ble_eq_true rfl) (Nat.le_of_ble_eq_true rfl) (by decide +kernel : decode cL_law 0 = .ok (.new 8, 3)) (fun h => ?_)
    refine k_dup hF (by decide +kernel : decode cL_law 3 = .ok (.dup, 1)) ?_
    refine k_callI hF lkIL_166 0 rfl (kc_X4_init Y h) (by decide +kernel : decode cL_law 4 = .ok (.invokespecial 166, 3)) (by decide) (Nat.le_of_ble_eq_true rfl) (Nat.le_of_ble_eq_true rfl) (Nat.le_of_ble_eq_true rfl) (fun L4 h4 => ?_)
    obtain ⟨mq, tal, r0, r1, r2, r3, r4, p0, p1, p2, w0, w1, d0, d1, s0, s1, h0, h1, pt, pu, t, u, rfl⟩ := h4
    refine k_astore hF (by decide +kernel : decode cL_law 7 = .ok (.astore_n 1, 1)) (by decide) ?_
    refine k_mov 0 ?_
    refine k_w (P2 := kwC Y h mq tal r0 r1 r2 r3 r4 p0 p1 p2 w0 w1 d0 d1 s0 s1 h0 h1 pt pu t u) (L2 := []) rfl ?_
    refine k_new hF (ci := 5) (T0 := TX5) (N := 11) rfl tyX5 tyX5_ok clL_167 kin_X5 kini_X5 kdef_X5 (Nat.le_of_ble_eq_true rfl) (Nat.le_of_ble_eq_true rfl) (by decide +kernel : decode cL_law 8 = .ok (.new 167, 3)) (fun mh => ?_)
    refine k_dup hF (by decide +kernel : decode cL_law 11 = .ok (.dup, 1)) ?_
    refine k_callI hF lkIL_169 0 rfl (kc_X5_init Y mh) (by decide +kernel : decode cL_law 12 = .ok (.invokespecial 169, 3)) (by decide) (Nat.le_of_ble_eq_true rfl) (Nat.le_of_ble_eq_true rfl) (Nat.le_of_ble_eq_true rfl) (fun L5 h5 => ?_)
    obtain ⟨ma, mb, mc, me, mf, mg, ml, rfl⟩ := h5
    refine k_astore hF (by decide +kernel : decode cL_law 15 = .ok (.astore_n 2, 1)) (by decide) ?_
    refine k_mov 0 ?_
    refine k_w (P2 := kwC Y h mq tal r0 r1 r2 r3 r4 p0 p1 p2 w0 w1 d0 d1 s0 s1 h0 h1 pt pu t u ++ modC Y mh ma mb mc me mf mg ml) (L2 := []) rfl ?_
    refine k_ico hF (by decide +kernel : decode cL_law 16 = .ok (.iconst 1, 1)) ?_
    refine k_newarr hF (atype := .long) (ty := .long) rfl kac_long (1, .inr (.inl (fun _ => Int64.ofInt 0))) (N := 1) rfl (by decide) (fun _ => rfl) (by decide) (Nat.le_of_ble_eq_true rfl) (Nat.le_of_ble_eq_true rfl) (by decide +kernel : decode cL_law 17 = .ok (.newarray .long, 2)) (fun lq => ?_)
    refine k_astore hF (by decide +kernel : decode cL_law 19 = .ok (.astore_n 3, 1)) (by decide) ?_
    refine k_ico hF (by decide +kernel : decode cL_law 20 = .ok (.iconst 1, 1)) ?_
    refine k_newarr hF (atype := .double) (ty := .double) rfl kac_double (1, .inr (.inr (.inr (.inl (fun _ => UInt64.ofNat 0))))) (N := 1) rfl (by decide) (fun _ => rfl) (by decide) (Nat.le_of_ble_eq_true rfl) (Nat.le_of_ble_eq_true rfl) (by decide +kernel : decode cL_law 21 = .ok (.newarray .double, 2)) (fun dq => ?_)
    refine k_astore4 hF (by decide +kernel : decode cL_law 23 = .ok (.astore 4, 2)) (by decide) ?_
    refine k_ico hF (by decide +kernel : decode cL_law 25 = .ok (.iconst 0, 1)) ?_
    refine k_istore5 hF (by decide +kernel : decode cL_law 26 = .ok (.istore 5, 2)) (by decide) ?_
    intro ls H locs hl hK hP hD hS
    have e1 : (kwC Y h mq tal r0 r1 r2 r3 r4 p0 p1 p2 w0 w1 d0 d1 s0 s1 h0 h1 pt pu t u ++ modC Y mh ma mb mc me mf mg ml) ++ (([] ++ [(lq, .inl (kc Y .long, (1, .inr (.inl (fun _ => Int64.ofInt 0)))))]) ++ [(dq, .inl (kc Y .double, (1, .inr (.inr (.inr (.inl (fun _ => UInt64.ofNat 0)))))))]) = W61 Y h mq tal r0 r1 r2 r3 r4 p0 p1 p2 w0 w1 d0 d1 s0 s1 h0 h1 mh ma mb mc me mf mg ml lq dq pt pu t u := List.append_assoc _ _ _
    have hP2 : va_P (kD Y) jC (W61 Y h mq tal r0 r1 r2 r3 r4 p0 p1 p2 w0 w1 d0 d1 s0 s1 h0 h1 mh ma mb mc me mf mg ml lq dq pt pu t u) H := by rw [← e1]; exact hP
    have hD2 : va_D (kA Y) (W61 Y h mq tal r0 r1 r2 r3 r4 p0 p1 p2 w0 w1 d0 d1 s0 s1 h0 h1 mh ma mb mc me mf mg ml lq dq pt pu t u) := by rw [← e1]; exact hD
    have el : kl Y = l := by rw [eY]
    rw [el]
    exact law_go l hst hL C0 Y el (by rw [eY]) h mq tal r0 r1 r2 r3 r4 p0 p1 p2 w0 w1 d0 d1 s0 s1 h0 h1 mh ma mb mc me mf mg ml lq dq pt pu t u H locs ls (lv_sub hl [5, 4, 3, 2, 1, 0] rfl) (kK_sub hK (List.forall_mem_cons.mpr ⟨by simp, List.forall_mem_cons.mpr ⟨by simp, List.forall_mem_cons.mpr ⟨by simp, List.forall_mem_cons.mpr ⟨by simp, List.forall_mem_cons.mpr ⟨by simp, fun _ h => absurd h List.not_mem_nil⟩⟩⟩⟩⟩)) hP2 hD2 hS
  have hl := lv_entry ([.ref b]) (n := 10) (Nat.le_of_ble_eq_true rfl)
  rw [lg_entry_eq]
  have k2 := key _ s.heap [] (by show lv_has _ c.maxLocals _; rw [hml]; exact hl) (by subst eY; exact hK0) (fun k q h => by simp at h) ⟨fun i j p q h => by simp at h, fun k q h => by simp at h⟩ va_S.rf
  subst eY
  exact k2

/-! THE LAW'S RULES: methods with handlers, caught throws, the script, doubles, the switch -/
/-- .. as Con, for a method with handlers; it may make an exception -/
def ConL (X : jX) (y : MethodName) (cc : ByteArray) (nl : Nat) (rt : Option FieldType) (hh : List (Nat × Nat × Nat × Nat)) (d : Nat) (as : List jV) (m : jM) (Post : Option jV → jM → Prop) : Prop :=
  Met (xl X) y (.codeWith y cc nl rt hh :: Tb) (jrm d 1 6) (va_Pc (as.map (dn X)) (jPre X m)) (jQ X Post) 1 6 (jA X)
def jEndL (F : jF) (X : jX) (Post : Option jV → jM → Prop) (hh : List (Nat × Nat × Nat × Nat)) : Prop := fQ F = MQ (fb F) (jQ X Post) (fa F) (fs F) 1 6 (jA X) ∧ fk F = 0 ∧ fn F = 0 ∧ (fc F).exceptionTable.toList = tableOf hh ∧ (fR F).cells = 1 ∧ (fR F).slots = 6
theorem jofWH {l : Launch} {y : MethodName} {ws ws' : List Cond} {rm : Room} {Pc : Array Value → State → Prop} {Qc : Array Value → State → Outcome → State → Prop} {mc ms : Nat} {free : Addr → Prop} {cc : ByteArray} {maxL : Nat} {ret : Option FieldType} {hh : List (Nat × Nat × Nat × Nat)}
    (hy : plainName y.cls = true) (hw : ws = Cond.codeWith y cc maxL ret hh :: ws')
    (body : ∀ p e s m args below meth c s₁, BodyLoose p l y (headSpec ws rm) cc maxL ret e s m args below meth c s₁ → c.maxLocals = maxL → Pc args s →
      W p l e (headSpec ws rm).room s m args below meth c s.heap [] 0 0 (MQ below Qc args s mc ms free) (entryFrame m args maxL)) : Met l y ws rm Pc Qc mc ms free := by
  refine MetFree.of_bodyS (code := cc) (maxLocals := maxL) (ret := ret) hy ?_ ?_
  · intro args s m h hn
    obtain ⟨m9, meth, c, hn9, h1, h2, h3, h4, -, h5, h6, -⟩ := Cond.codeWith_spec (atoms_spec (ws := ws) h _ (by rw [hw]; exact List.mem_cons_self))
    cases hn.symm.trans hn9
    exact ⟨meth, c, h1, h2, h3, h4, h5, h6⟩
  · intro p e s m args below meth c s₁ B hml hP _
    have hh0 : s₁.heap = s.heap := by rw [B.state]; rfl
    obtain ⟨t, a1, o, b1, b2, b3⟩ := body p e s m args below meth c s₁ B hml hP s₁ hh0 (Stand.of_body B)
    exact ⟨t, o, a1, b1, b2, ⟨b3.1, b3.2⟩⟩
theorem ConL.of {X : jX} {y : MethodName} {cc : ByteArray} {nl : Nat} {rt : Option FieldType} {hh : List (Nat × Nat × Nat × Nat)} {d : Nat} {as : List jV} {m : jM} {Post : Option jV → jM → Prop} (hX : jxok X) (hy : plainName y.cls = true) (hn : jlen as ≤ nl)
    (body : ∀ F : jF, jOk F X y.cls cc nl rt d → jEndL F X Post hh → jG F X m 0 (jargs 0 as) []) : ConL X y cc nl rt hh d as m Post := by
  refine jofWH (cc := cc) (maxL := nl) (ret := rt) (hh := hh) hy rfl ?_
  intro p e s mm args below meth c s₁ B hml hv
  obtain ⟨rfl, hb0, hP, hK, hZ⟩ := hv
  have hts := atoms_spec (ws := .codeWith y cc nl rt hh :: Tb) B.pre
  have htab := vx_table (x := y) B (hts _ List.mem_cons_self)
  rw [lg_entry_eq]
  have hl := lv_entry (as.map (dn X)) (n := nl) (by rw [jlen_eq]; exact hn)
  rw [jargs_eq X as 0] at hl
  exact body (p, e, jrm d 1 6, s, mm, (as.map (dn X)).toArray, below, meth, c, 0, 0, MQ below (jQ X Post) (as.map (dn X)).toArray s 1 6 (jA X))
    ⟨B.exec, B.bytes, hml, findClass_of_methodNamed B.named, fun w h => hts w (List.mem_cons_of_mem _ h), hK, hZ, hb0, B.returns, B.notSynchronized, hX, Nat.le_refl _, Nat.le_refl _, Nat.zero_le _, Nat.zero_le _⟩ ⟨rfl, rfl, rfl, htab, rfl, rfl⟩ _ _ _ (by rw [hml]; exact hl) hP va_S.rf
theorem ConL.mono {X : jX} {y : MethodName} {cc : ByteArray} {nl : Nat} {rt : Option FieldType} {hh : List (Nat × Nat × Nat × Nat)} {d : Nat} {as : List jV} {m : jM} {P P' : Option jV → jM → Prop} (h : ConL X y cc nl rt hh d as m P) (hp : ∀ r m', P r m' → P' r m') : ConL X y cc nl rt hh d as m P' := by
  intro p e ha hc hk s m args below hf happ hP hK
  obtain ⟨n, o, h1, h2, h3, ⟨⟨r, m', e1, e2, e3⟩, h4⟩, h5⟩ := h p e ha hc hk s m args below hf happ hP hK
  exact ⟨n, o, h1, h2, h3, ⟨⟨r, m', e1, hp r m' e2, e3⟩, h4⟩, h5⟩
/-- the same, with so many things made -/
abbrev fup (F : jF) (k n : Nat) : jF := (fp F, fe F, fR F, fs F, fm F, fa F, fb F, ft F, fc F, k, n, fQ F)
def jlkL (own : String) (idx : Nat) (y : MethodName) (bytes : ByteArray) (maxL : Nat) (ret : Option FieldType) (hh : List (Nat × Nat × Nat × Nat)) (n : Nat) : Prop :=
  (y.cls ≠ "java/lang/invoke/MethodHandle" ∧ y.cls ≠ "java/lang/invoke/VarHandle" ∧ (parseMethodDescriptor y.desc).map (fun d => d.parameters.length) = some n) ∧ (∀ w ∈ ([.methodLink own idx y, .static y, .initialized y.cls] : List Cond), w ∈ Tb) ∧ Cond.codeWith y bytes maxL ret hh ∈ Tb ∧ maxL ≤ 180
section JL
variable {F : jF} {X : jX} {m : jM} {pc : Nat} {lv : List (Nat × jV)} {st : List jV} {own : String} {cc : ByteArray} {nl dp : Nat} {rt : Option FieldType} {Post : Option jV → jM → Prop} {hh : List (Nat × Nat × Nat × Nat)}
theorem jOk.up (h : jOk F X own cc nl rt dp) {k n : Nat} (hk : k ≤ (fR F).cells) (hn : n ≤ (fR F).slots) : jOk (fup F k n) X own cc nl rt dp := ⟨h.x, h.b, h.ml, h.o, h.ts, h.K, h.Z, h.base, h.rr, h.lk, h.xk, h.R.1, h.R.2.1, hk, hn⟩
theorem g_ireturnL (hF : jOk F X own cc nl (some .int) dp) (hQ : jEndL F X Post hh) (hd : decode cc pc = .ok (.ireturn, 1)) {z : Int} (hp : Post (some (vI z)) m) : jG F X m pc lv [vI z] := by
  intro ls H locs hl hP hS
  obtain ⟨h1, h2, h3, -, -, -⟩ := hQ
  unfold jW
  rw [h1, h2, h3]
  refine W.widen (k := 1) (n := 6) (Nat.zero_le _) (Nat.zero_le _) ?_
  exact W.iret hF.x hF.b hF.rr (fun t ht hW => ⟨⟨some (vI z), m, rfl, hp, by rw [ht]; exact hP⟩, hS.F ht⟩) hS.2.2 hd hF.lk
variable {y : MethodName} {bytes : ByteArray} {maxL n idx d : Nat} {ret : Option FieldType}
/-- a call that throws, caught here: the handler tells a number -/
theorem g_tryV (hF : jOk F X own cc nl (some .int) dp) (hQ : jEndL F X Post hh) {E : String} {P : jM → Prop} {C : String} {r : Nat × Nat} {as rest : List jV} (hlk : jlkV own idx C y bytes maxL ret n) (hc : ConXP X y bytes maxL ret d (.inr (.inl r) :: as) m P E) (hd : decode cc pc = .ok (.invokevirtual idx, 3)) (hdp : d + 1 ≤ dp) (hst : st = as.reverse ++ .inr (.inl r) :: rest) (hn : as.length = n) {ci : Nat} {vs : List jV} (hv : fvals m r = some (ci, vs)) (hC : (jC[ci]?).map (fun q => q.1) = some C) (hr : jok r) (hrest : rest.length ≤ 4)
    (pre : List ExceptionTableEntry) (x : ExceptionTableEntry) (suf : List ExceptionTableEntry) (hsplit : tableOf hh = pre ++ x :: suf) (hpass : ∀ z ∈ pre, z.catchType ≠ 0 ∧ ∃ nm : String, Cond.classLink own z.catchType nm ∈ Tb ∧ (E, nm) ∈ jNc) (hx : covers x pc = true) (hx0 : x.catchType ≠ 0) (hlink : Cond.classLink own x.catchType E ∈ Tb) (hcast : Cond.castable E E ∈ Tn)
    {i la : Nat} (hda : (∃ k0 : Fin 4, decode cc x.handlerPc = .ok (.astore_n k0, 1) ∧ (k0 : Nat) = i ∧ la = 1) ∨ (decode cc x.handlerPc = .ok (.astore i, 2) ∧ la = 2)) (hi : i < nl)
    {z : Int} (hdc : decode cc (x.handlerPc + la) = .ok (.iconst z, 1)) (hdr : decode cc (x.handlerPc + la + 1) = .ok (.ireturn, 1)) (hp : ∀ m' : jM, P m' → Post (some (vI z)) m') : jG F X m pc lv st := by
  obtain ⟨⟨y1, y2, y3, y4⟩, hw, hcode, hmx⟩ := hlk
  obtain ⟨q1, q2, q3, q4, q5, q6⟩ := hQ
  intro ls H locs hl hP hS
  obtain ⟨R1, R2, R3, R4⟩ := hF.R
  cases hq : jC[ci]? with
  | none => rw [hq] at hC; cases hC
  | some q =>
    rw [hq] at hC
    have hCq : q.1 = C := Option.some.inj hC
    have he : (wl X m)[cid r]? = some (xa X (cid r), .inr (ci, vs.map (dn X))) := by rw [wl_get X m (jok_lt hr), fvals_ok X hv hr]
    have hrecv := va_recv hF.K hP hq he
    rw [hCq] at hrecv
    have hcw := cwV (s := fs F) (args := fa F) (R := fR F) (own := own) (index := idx) (C := C) (y := y) (bytes := bytes) (maxL := maxL) (ret := ret) (rm := jrm d 1 6) (ws := .code y bytes maxL ret :: Tb) n hF.ts (Tb_app (Tb_sub hw) hcode) rfl rfl rfl ⟨y1, y2, y3, y4⟩ ⟨Nat.le_trans hdp R1, Nat.le_trans (show 8 + (maxL + 11) + 200 * d ≤ 200 * dp by omega) R2⟩
    have e : st.map (dn X) = (as.map (dn X)).reverse ++ .ref (xa X (cid r)) :: rest.map (dn X) := by rw [hst, List.map_append, List.map_reverse]; rfl
    rw [e]
    have hrun := vx_runV (p := fp F) (l := xl X) (e := fe F) (R := fR F) (s := fs F) (m := fm F) (args := fa F) (below := fb F) (meth := ft F) (c := fc F) (H := H) (locs := locs) (cells := fk F) (slots := fn F) (g := F0 (fm F) pc ls ((as.map (dn X)).reverse ++ .ref (xa X (cid r)) :: rest.map (dn X))) (As := as.map (dn X)) (rest := rest.map (dn X)) ⟨hF.x, hF.b, rfl, hF.o, hF.ts⟩ hc hcw ⟨jblind, hrecv, jpre_at hF hP hS (as := dn X (.inr (.inl r)) :: as.map (dn X))⟩ rfl (by rw [List.length_map]; exact hn) hl.1 rfl (lv_room (Nat.le_trans (jsum X rest) (by omega))) hd ⟨by rw [q2, q5]; exact Nat.le_refl _, by rw [q3, q6]; exact Nat.le_refl _⟩
    intro T hT Y
    rcases hrun T hT Y with ⟨v, st₀, t, T', L, h0, Y', hL, e1, e2, hq2, sg⟩ | ⟨qa, st₀, t, T', L, E', ce, h0, Y', hL, e1, e2, ⟨hE, ⟨m', hm', hP'⟩, hz, hk⟩, hce, hcv, hcl, sg⟩
    · exact hq2.elim
    subst hE
    rw [h0] at hz hk
    have hS' : va_S (jA X) (fs F).heap T'.heap (locs ++ L) :=
      ⟨Nat.le_trans hS.1 (by rw [e1]; exact hz), fun q h1 h2 => by rw [e1, hk q (Nat.lt_of_lt_of_le h1 hS.1) h2]; exact hS.2.1 q h1 h2, fun q hq => by
        rcases List.mem_append.mp hq with h | h
        · exact hS.2.2 q h
        · exact hL q h⟩
    have fin : ∀ (ls2 : Array Slot), W (fp F) (xl X) (fe F) (fR F) (fs F) (fm F) (fa F) (fb F) (ft F) (fc F) T'.heap (locs ++ L) (fk F + 1) (fn F + 6) (fQ F) (F0 (fm F) (x.handlerPc + la) ls2 []) := by
      intro ls2
      refine lv_iconst hF.x hF.b hdc rfl ?_
      rw [q1, q2, q3]
      exact W.iret hF.x hF.b hF.rr (fun t ht hW => ⟨⟨some (vI z), m', rfl, hp m' hm', by rw [ht, e1]; exact hP'⟩, hS'.F ht⟩) hS'.2.2 hdr hF.lk
    have kk : W (fp F) (xl X) (fe F) (fR F) (fs F) (fm F) (fa F) (fb F) (ft F) (fc F) T'.heap (locs ++ L) (fk F + 1) (fn F + 6) (fQ F) (F0 (fm F) x.handlerPc ls [.ref qa]) := by
      rcases hda with ⟨k0, hd0, hk0, hla⟩ | ⟨hd0, hla⟩
      · subst hla
        exact lv_astore_n hF.x hF.b hd0 hk0 hl (by rw [hF.ml]; exact hi) rfl (fun ls2 _ => fin ls2)
      · subst hla
        exact lv_astore hF.x hF.b hd0 hl (by rw [hF.ml]; exact hi) rfl (fun ls2 _ => fin ls2)
    obtain ⟨t2, a1, b1⟩ := vx_catch (own := own) (name := E') (E := E') (ce := ce) (q := qa) (pc := pc) (ls := ls) (rest := rest.map (dn X)) hF.o pre x suf (by rw [q4]; exact hsplit) (fun z hz => by
      obtain ⟨z0, nm, z1, z2⟩ := hpass z hz
      exact Or.inr ⟨z0, nm, hF.ts _ z1, hF.Z.2.2.1 _ z2⟩) hx hx0 (hF.ts _ hlink) (va_Nw.use rfl (hF.Z.1 _ hcast)) (by rw [e1]; exact hce) hcv hcl kk T' rfl Y'
    exact ⟨t2, sg.trans a1, b1⟩
/-- a call of a method with handlers -/
theorem g_callL (hF : jOk F X own cc nl rt dp) {as rest : List jV} (hlk : jlkL own idx y bytes maxL ret hh n) (hc : ConL X y bytes maxL ret hh d as m Post) (hd : decode cc pc = .ok (.invokestatic idx, 3)) (hdp : d + 1 ≤ dp) (hst : st = as.reverse ++ rest) (hn : as.length = n) (hrest : rest.length ≤ 4) (hroom : fk F + 1 ≤ (fR F).cells ∧ fn F + 6 ≤ (fR F).slots)
    (k : ∀ (v : Option jV) (m' : jM), Post v m' → jG (fup F (fk F + 1) (fn F + 6)) X m' (pc + 3) lv (v.toList ++ rest)) : jG F X m pc lv st := by
  obtain ⟨hy, hw, hcode, hmx⟩ := hlk
  intro ls H locs hl hP hS
  obtain ⟨R1, R2, R3, R4⟩ := hF.R
  have hcw := vx_cwSW (s := fs F) (args := fa F) (R := fR F) (own := own) (index := idx) (y := y) (bytes := bytes) (maxL := maxL) (ret := ret) (hh := hh) (rm := jrm d 1 6) (ws := .codeWith y bytes maxL ret hh :: Tb) n hF.ts (Tb_app (Tb_sub hw) hcode) rfl rfl rfl hy ⟨Nat.le_trans hdp R1, Nat.le_trans (show 8 + (maxL + 11) + 200 * d ≤ 200 * dp by omega) R2⟩
  rw [jstk hst]
  have hr := vx_runSW (p := fp F) (l := xl X) (e := fe F) (R := fR F) (s := fs F) (m := fm F) (args := fa F) (below := fb F) (meth := ft F) (c := fc F) (H := H) (locs := locs) (cells := fk F) (slots := fn F) (g := F0 (fm F) pc ls ((as.map (dn X)).reverse ++ rest.map (dn X))) (As := as.map (dn X)) (rest := rest.map (dn X)) ⟨hF.x, hF.b, rfl, hF.o, hF.ts⟩ hc hcw ⟨jblind, jpre_at hF hP hS⟩ rfl (by rw [List.length_map]; exact hn) hl.1 rfl (lv_room (Nat.le_trans (jsum X rest) (by omega))) hd hroom
  intro T hT Y
  obtain ⟨v, st₀, t, T', L, h0, Y', hL, e1, e2, ⟨⟨r, m', hv, hp, hP'⟩, hz, hk⟩, sg⟩ := hr T hT Y
  cases hv
  rw [h0] at hz hk
  have kk := k r m' hp ls T'.heap (locs ++ L) hl (by rw [e1]; exact hP')
    ⟨Nat.le_trans hS.1 (by rw [e1]; exact hz), fun q h1 h2 => by rw [e1, hk q (Nat.lt_of_lt_of_le h1 hS.1) h2]; exact hS.2.1 q h1 h2, fun q hq => by
      rcases List.mem_append.mp hq with h | h
      · exact hS.2.2 q h
      · exact hL q h⟩
  obtain ⟨t2, a1, b1⟩ := kk T' rfl Y'
  refine ⟨t2, sg t2 ?_, b1⟩
  have e : (r.toList ++ rest).map (dn X) = (r.map (dn X)).toList ++ rest.map (dn X) := by cases r <;> rfl
  rw [e] at a1
  exact a1
/-- the script lies at the address of number 61 -/
def jScr (F : jF) (X : jX) (L : Nat) (xs : Nat → Int32) : Prop := va_X (xa X 61) L xs (fs F) (fs F).heap ∧ xa X 61 < (fs F).heap.size ∧ xa X 61 < xb X ∧ L ≤ 2560
def sx (xs : Nat → Int32) (z : Int) : Int := (xs z.toNat).toInt
theorem sx_r (xs : Nat → Int32) (z : Int) : jr (sx xs z) := by
  unfold sx
  have h1 := (xs z.toNat).le_toInt
  have h2 := (xs z.toNat).toInt_lt
  exact ⟨by omega, by omega⟩
theorem g_sld (hF : jOk F X own cc nl rt dp) {L : Nat} {xs : Nat → Int32} (hs : jScr F X L xs) (hd : decode cc pc = .ok (.iaload, 1)) {z : Int} (hz : 0 ≤ z ∧ z < L) (k : jG F X m (pc + 1) lv (vI (sx xs z) :: st)) : jG F X m pc lv (vI z :: vR 2 61 :: st) := by
  obtain ⟨h1, h2, h3, h4⟩ := hs
  intro ls H locs hl hP hS
  refine va_sld hF.x hF.b h1 h2 (fun q => absurd (show xb X ≤ xa X 61 from q) (by omega)) hS (ji_in hz.1 hz.2 (by omega)) hd ?_
  have k2 := k ls H locs hl hP hS
  rw [List.map_cons, show dn X (vI (sx xs z)) = .int (Int32.ofInt (sx xs z)) from rfl, sx, Int32.ofInt_toInt] at k2
  rw [ji_clamp hz.1 (by omega)]
  exact k2
theorem g_slen (hF : jOk F X own cc nl rt dp) {L : Nat} {xs : Nat → Int32} (hs : jScr F X L xs) (hd : decode cc pc = .ok (.arraylength, 1)) (k : jG F X m (pc + 1) lv (vI L :: st)) : jG F X m pc lv (vR 2 61 :: st) := by
  obtain ⟨h1, h2, h3, h4⟩ := hs
  intro ls H locs hl hP hS
  refine va_slen hF.x hF.b h1 h2 (fun q => absurd (show xb X ≤ xa X 61 from q) (by omega)) hS hd ?_
  have k2 := k ls H locs hl hP hS
  rw [List.map_cons, show dn X (vI (L : Int)) = .int (Int32.ofInt (L : Int)) from rfl, Int32.ofInt_eq_ofNat] at k2
  exact k2
theorem g_i2c (hF : jOk F X own cc nl rt dp) (hd : decode cc pc = .ok (.i2c, 1)) {a : Int} (k : jG F X m (pc + 1) lv (vI (a % 65536) :: st)) : jG F X m pc lv (vI a :: st) := by
  intro ls H locs hl hP hS
  refine lv_i2c hF.x hF.b hd ?_ (k ls H locs hl hP hS)
  apply Int32.toBitVec_inj.mp
  apply BitVec.eq_of_toNat_eq
  show ((Int32.ofInt a).toUInt32 % 65536).toNat = (BitVec.ofInt 32 (a % 65536)).toNat
  rw [UInt32.toNat_mod]
  show (BitVec.ofInt 32 a).toNat % 65536 = (BitVec.ofInt 32 (a % 65536)).toNat
  rw [BitVec.toNat_ofInt, BitVec.toNat_ofInt]
  omega
theorem g_tableOut (hF : jOk F X own cc nl rt dp) {dflt lo hi : Int} {offs : Array Int} {len tgt : Nat} {a : Int} (hd : decode cc pc = .ok (.tableswitch dflt lo hi offs, len)) (ja : jr a) (h : a < lo ∨ hi < a) (ht : (pc : Int) + dflt = (tgt : Int)) (k : jG F X m tgt lv st) : jG F X m pc lv (vI a :: st) := by
  intro ls H locs hl hP hS
  exact lv_tableOut hF.x hF.b hd (by rw [ji_toInt ja]; exact h) ht (k ls H locs hl hP hS)
theorem g_tableIn (hF : jOk F X own cc nl rt dp) {dflt lo hi off : Int} {offs : Array Int} {len tgt : Nat} {a : Int} (hd : decode cc pc = .ok (.tableswitch dflt lo hi offs, len)) (ja : jr a) (h : lo ≤ a ∧ a ≤ hi) (ho : offs[(a - lo).toNat]? = some off) (ht : (pc : Int) + off = (tgt : Int)) (k : jG F X m tgt lv st) : jG F X m pc lv (vI a :: st) := by
  intro ls H locs hl hP hS
  exact lv_tableIn hF.x hF.b hd (by rw [ji_toInt ja]; omega) (by rw [ji_toInt ja]; omega) (by rw [ji_toInt ja]; exact ho) ht (k ls H locs hl hP hS)
/-! doubles -/
def dI (w : UInt64) : Int := (w.toNat : Int)
def iD (z : Int) : UInt64 := UInt64.ofNat z.toNat
theorem iD_dI (w : UInt64) : iD (dI w) = w := by
  unfold iD dI
  rw [Int.toNat_natCast]
  exact UInt64.ofNat_toNat
theorem g_daload (hF : jOk F X own cc nl rt dp) (hd : decode cc pc = .ok (.daload, 1)) (k : jG F X m (pc + 1) lv (vD (iD (m 60 0)) :: st)) : jG F X m pc lv (vI 0 :: vR 2 60 :: st) := by
  intro ls H locs hl hP hS
  have he : (wl X m)[60]? = some (xa X 60, .inl (xc X 4, 1, .inr (.inr (.inr (.inl (fun k => UInt64.ofNat (m 60 (k : Int)).toNat)))))) := by rw [wl_get X m (by decide)]; rfl
  exact va_dald hF.x hF.b hF.K hP 60 4 he rfl (ji_in (a := 0) (by decide) (by decide) (by decide)) hd (k ls H locs hl hP hS)
theorem g_dastore (hF : jOk F X own cc nl rt dp) (hd : decode cc pc = .ok (.dastore, 1)) {w : UInt64} (k : jG F X (mset m 60 0 (dI w)) (pc + 1) lv st) : jG F X m pc lv (vD w :: vI 0 :: vR 2 60 :: st) := by
  intro ls H locs hl hP hS
  have he : (wl X m)[60]? = some (xa X 60, .inl (xc X 4, 1, .inr (.inr (.inr (.inl (fun k => UInt64.ofNat (m 60 (k : Int)).toNat)))))) := by rw [wl_get X m (by decide)]; rfl
  refine va_dast hF.x hF.b hF.K hP hF.D hS 60 4 he rfl (ji_in (a := 0) (by decide) (by decide) (by decide)) hd (fun H1 locs1 a1 _ a3 => ?_)
  have e : vf_upd (fun k : Nat => UInt64.ofNat (m 60 (k : Int)).toNat) (Int32.ofInt 0).toNatClampNeg w = fun k : Nat => UInt64.ofNat (mset m 60 0 (dI w) 60 (k : Int)).toNat := by
    funext k
    unfold vf_upd mset
    by_cases hk : k = 0
    · subst hk
      exact (iD_dI w).symm
    · rw [if_neg (by rw [ji_clamp (by decide) (by decide)]; exact hk), if_neg (by omega)]
  have a2 := wl_set (X := X) (m := m) (m' := mset m 60 0 (dI w)) (j := 60) (e := .inl (xc X 4, 1, .inr (.inr (.inr (.inl (fun k : Nat => UInt64.ofNat (mset m 60 0 (dI w) 60 (k : Int)).toNat)))))) (by decide) rfl (fun i hi => (mset_ne hi).symm)
  rw [e, a2] at a1
  exact k ls H1 locs1 hl a1 a3
theorem g_dcmpE (hF : jOk F X own cc nl rt dp) (hd : decode cc pc = .ok (.dcmp .l, 1)) {w v : UInt64} (hv : v = w) (hn : FP.Core.val64 w ≠ .nan) (k : jG F X m (pc + 1) lv (vI 0 :: st)) : jG F X m pc lv (vD v :: vD w :: st) := by
  subst hv
  intro ls H locs hl hP hS
  refine lv_dcmp hF.x hF.b hd ?_
  rw [dcmp_eq hn]
  exact k ls H locs hl hP hS
theorem g_fload (hF : jOk F X own cc nl rt dp) {i : Nat} {z : UInt32} (hd : decode cc pc = .ok (.fload i, 2)) (hg : lget lv i = some (vF z)) (k : jG F X m (pc + 2) lv ((vF z) :: st)) : jG F X m pc lv (st) := by
  intro ls H locs hl hP hS
  exact lv_fload hF.x hF.b hd (jl_at hl hg) (k ls H locs hl hP hS)
theorem g_dload (hF : jOk F X own cc nl rt dp) {i : Nat} {z : UInt64} (hd : decode cc pc = .ok (.dload i, 2)) (hg : lget lv i = some (vD z)) (k : jG F X m (pc + 2) lv ((vD z) :: st)) : jG F X m pc lv (st) := by
  intro ls H locs hl hP hS
  exact lv_dload hF.x hF.b hd (jl_at hl hg) (k ls H locs hl hP hS)
theorem g_fstore (hF : jOk F X own cc nl rt dp) {i : Nat} {z : UInt32} (hd : decode cc pc = .ok (.fstore i, 2)) (hn : i < nl) (k : jG F X m (pc + 2) (lset lv i (vF z)) st) : jG F X m pc lv ((vF z) :: st) := by
  intro ls H locs hl hP hS
  exact lv_fstore hF.x hF.b hd hl (by rw [hF.ml]; exact hn) rfl (fun ls2 hl2 => k ls2 H locs (lset_ok1 (v := vF z) rfl hl2) hP hS)
theorem g_dstore (hF : jOk F X own cc nl rt dp) {i : Nat} {z : UInt64} (hd : decode cc pc = .ok (.dstore i, 2)) (hn : i + 1 < nl) (k : jG F X m (pc + 2) (lset lv i (vD z)) st) : jG F X m pc lv ((vD z) :: st) := by
  intro ls H locs hl hP hS
  exact lv_dstore hF.x hF.b hd hl (by rw [hF.ml]; exact hn) rfl (fun ls2 hl2 => k ls2 H locs (lset_ok2 (v := vD z) rfl hl2) hP hS)
end JL

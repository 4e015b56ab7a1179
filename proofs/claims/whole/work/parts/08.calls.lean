/-! CONTRACTS, ENDS, CALLS, THROWS -/
def jPre (X : jX) (m : jM) (U : State) : Prop := xb X ≤ U.heap.size ∧ va_P (xD X) jC (wl X m) U.heap ∧ va_K (xD X) jC (jT X) U ∧ jZ X U
def jQ (X : jX) (Post : Option jV → jM → Prop) : Array Value → State → Outcome → State → Prop := fun _ st oc t => (∃ (r : Option jV) (m' : jM), oc = .returned (r.map (dn X)) ∧ Post r m' ∧ va_P (xD X) jC (wl X m') t.heap) ∧ va_F (jA X) st t
abbrev jrm (d k n : Nat) : Room := { frames := d, cells := k, slots := n, locals := 200 * d }
/-- from this memory, with these arguments, the method returns, and Post holds of its answer and the memory then -/
def Con (X : jX) (y : MethodName) (cc : ByteArray) (nl : Nat) (rt : Option FieldType) (d : Nat) (as : List jV) (m : jM) (Post : Option jV → jM → Prop) : Prop :=
  Met (xl X) y (.code y cc nl rt :: Tb) (jrm d 0 0) (va_Pc (as.map (dn X)) (jPre X m)) (jQ X Post) 0 0 (jA X)
def jXC (X : jX) (P : jM → Prop) (E : String) : String → State → State → Prop := fun E' st t => E' = E ∧ (∃ m' : jM, P m' ∧ va_P (xD X) jC (wl X m') t.heap) ∧ va_F (jA X) st t
/-- .. it throws an E, of the memory then P holds -/
def ConXP (X : jX) (y : MethodName) (cc : ByteArray) (nl : Nat) (rt : Option FieldType) (d : Nat) (as : List jV) (m : jM) (P : jM → Prop) (E : String) : Prop :=
  vx_Met (xl X) y (.code y cc nl rt :: Tb) (jrm d 1 6) (va_Pc (as.map (dn X)) (jPre X m)) (fun _ _ _ _ => False) (jXC X P E) 1 6 (jA X)
/-- .. the memory stays -/
abbrev ConX (X : jX) (y : MethodName) (cc : ByteArray) (nl : Nat) (rt : Option FieldType) (d : Nat) (as : List jV) (m : jM) (E : String) : Prop := ConXP X y cc nl rt d as m (fun m' => m' = m) E
def jEnd (F : jF) (X : jX) (Post : Option jV → jM → Prop) : Prop := fQ F = MQ (fb F) (jQ X Post) (fa F) (fs F) 0 0 (jA X) ∧ fk F = 0 ∧ fn F = 0
def jEndX (F : jF) (X : jX) (P : jM → Prop) (E : String) : Prop := fQ F = vx_MQ (fb F) (fun _ _ _ _ => False) (jXC X P E) (fa F) (fs F) 1 6 (jA X) ∧ fk F = 0 ∧ fn F = 0 ∧ (∀ x ∈ (fc F).exceptionTable.toList, False) ∧ (fR F).cells = 1 ∧ (fR F).slots = 6
def jw : jV → Nat
  | .inr (.inr (.inl _)) => 2
  | .inr (.inr (.inr (.inr _))) => 2
  | _ => 1
def jargs : Nat → List jV → List (Nat × jV)
  | _, [] => []
  | i, v :: vs => (i, v) :: jargs (i + jw v) vs
theorem jw_dn (X : jX) (v : jV) (i : Nat) : (if (dn X v).category = 2 then i + 2 else i + 1) = i + jw v := by
  rcases v with z | r | z | u | u <;> simp [dn, jw, Value.category]
theorem jargs_eq (X : jX) : ∀ (vs : List jV) (i : Nat), lv_args i (vs.map (dn X)) = jlv X (jargs i vs)
  | [], _ => rfl
  | v :: vs, i => by
    have h := jargs_eq X vs (i + jw v)
    rw [← jw_dn X v i] at h
    show (i, dn X v) :: lv_args _ (vs.map (dn X)) = (i, dn X v) :: jlv X (jargs (i + jw v) vs)
    rw [h, jw_dn X v i]
theorem jblind {X : jX} {m : jM} {as : List Value} : FrameBlind (va_Pc as (jPre X m)) := by
  intro a U g mk h
  obtain ⟨h0, h1, h2, h3, h4⟩ := h
  exact ⟨h0, h1, h2, va_K.moved (u := U) (U := U.calling g mk a) (Vm.Alike.refl U.vm) h3, jZ.warm (U := U.calling g mk a) h4 (State.WarmedH.refl U) (fun _ _ _ => rfl)⟩
def jlen (as : List jV) : Nat := (as.map jw).sum
theorem jlen_eq (X : jX) : ∀ as : List jV, (lg_sl (as.map (dn X))).length = jlen as
  | [] => rfl
  | v :: vs => by
    have h := jlen_eq X vs
    unfold jlen at h ⊢
    show (lg_sl (dn X v :: vs.map (dn X))).length = jw v + (vs.map jw).sum
    rw [← h]
    rcases v with z | r | z | u | u <;> simp [lg_sl, dn, jw, Value.category] <;> omega
theorem Con.of {X : jX} {y : MethodName} {cc : ByteArray} {nl : Nat} {rt : Option FieldType} {d : Nat} {as : List jV} {m : jM} {Post : Option jV → jM → Prop} (hX : jxok X) (hy : plainName y.cls = true) (hn : jlen as ≤ nl)
    (body : ∀ F : jF, jOk F X y.cls cc nl rt d → jEnd F X Post → jG F X m 0 (jargs 0 as) []) : Con X y cc nl rt d as m Post := by
  refine Met.ofW (cc := cc) (maxL := nl) (ret := rt) hy rfl ?_
  intro p e s mm args below meth c s₁ B hml hv
  obtain ⟨rfl, hb0, hP, hK, hZ⟩ := hv
  have hts := atoms_spec (ws := .code y cc nl rt :: Tb) B.pre
  rw [lg_entry_eq]
  have hl := lv_entry (as.map (dn X)) (n := nl) (by rw [jlen_eq]; exact hn)
  rw [jargs_eq X as 0] at hl
  exact body (p, e, jrm d 0 0, s, mm, (as.map (dn X)).toArray, below, meth, c, 0, 0, MQ below (jQ X Post) (as.map (dn X)).toArray s 0 0 (jA X))
    ⟨B.exec, B.bytes, hml, findClass_of_methodNamed B.named, fun w h => hts w (List.mem_cons_of_mem _ h), hK, hZ, hb0, B.returns, B.notSynchronized, hX, Nat.le_refl _, Nat.le_refl _, Nat.le_refl _, Nat.le_refl _⟩ ⟨rfl, rfl, rfl⟩ _ _ _ (by rw [hml]; exact hl) hP va_S.rf
theorem ConX.of {X : jX} {y : MethodName} {cc : ByteArray} {nl : Nat} {rt : Option FieldType} {d : Nat} {as : List jV} {m : jM} {P : jM → Prop} {E : String} (hX : jxok X) (hy : plainName y.cls = true) (hn : jlen as ≤ nl)
    (body : ∀ F : jF, jOk F X y.cls cc nl rt d → jEndX F X P E → jG F X m 0 (jargs 0 as) []) : ConXP X y cc nl rt d as m P E := by
  refine vx_ofW (cc := cc) (maxL := nl) (ret := rt) hy rfl ?_
  intro p e s mm args below meth c s₁ B hml hx hv
  obtain ⟨rfl, hb0, hP, hK, hZ⟩ := hv
  have hts := atoms_spec (ws := .code y cc nl rt :: Tb) B.pre
  rw [lg_entry_eq]
  have hl := lv_entry (as.map (dn X)) (n := nl) (by rw [jlen_eq]; exact hn)
  rw [jargs_eq X as 0] at hl
  exact body (p, e, jrm d 1 6, s, mm, (as.map (dn X)).toArray, below, meth, c, 0, 0, vx_MQ below (fun _ _ _ _ => False) (jXC X P E) (as.map (dn X)).toArray s 1 6 (jA X))
    ⟨B.exec, B.bytes, hml, findClass_of_methodNamed B.named, fun w h => hts w (List.mem_cons_of_mem _ h), hK, hZ, hb0, B.returns, B.notSynchronized, hX, Nat.le_refl _, Nat.le_refl _, Nat.zero_le _, Nat.zero_le _⟩ ⟨rfl, rfl, rfl, hx, rfl, rfl⟩ _ _ _ (by rw [hml]; exact hl) hP va_S.rf
theorem Con.mono {X : jX} {y : MethodName} {cc : ByteArray} {nl : Nat} {rt : Option FieldType} {d : Nat} {as : List jV} {m : jM} {P P' : Option jV → jM → Prop} (h : Con X y cc nl rt d as m P) (hp : ∀ r m', P r m' → P' r m') : Con X y cc nl rt d as m P' := by
  intro p e ha hc hk s mm args below hf happ hP hK
  obtain ⟨n, o, h1, h2, h3, ⟨⟨r, m', e1, e2, e3⟩, h4⟩, h5⟩ := h p e ha hc hk s mm args below hf happ hP hK
  exact ⟨n, o, h1, h2, h3, ⟨⟨r, m', e1, hp r m' e2, e3⟩, h4⟩, h5⟩
section JE
variable {F : jF} {X : jX} {m : jM} {pc : Nat} {lv : List (Nat × jV)} {st : List jV} {own : String} {cc : ByteArray} {nl dp : Nat} {rt : Option FieldType} {Post : Option jV → jM → Prop}
theorem g_ireturn (hF : jOk F X own cc nl (some .int) dp) (hQ : jEnd F X Post) (hd : decode cc pc = .ok (.ireturn, 1)) {z : Int} (hp : Post (some (vI z)) m) : jG F X m pc lv [vI z] := by
  intro ls H locs hl hP hS
  obtain ⟨h1, h2, h3⟩ := hQ
  unfold jW
  rw [h1, h2, h3]
  exact W.iret hF.x hF.b hF.rr (fun t ht hW => ⟨⟨some (vI z), m, rfl, hp, by rw [ht]; exact hP⟩, hS.F ht⟩) hS.2.2 hd hF.lk
theorem g_zreturn (hF : jOk F X own cc nl (some .boolean) dp) (hQ : jEnd F X Post) (hd : decode cc pc = .ok (.ireturn, 1)) {z : Int} (hz : z = 0 ∨ z = 1) (hp : Post (some (vI z)) m) : jG F X m pc lv [vI z] := by
  intro ls H locs hl hP hS
  obtain ⟨h1, h2, h3⟩ := hQ
  unfold jW
  rw [h1, h2, h3]
  exact W.zret hF.x hF.b hF.rr (by rcases hz with e | e <;> subst e <;> rfl) (fun t ht hW => ⟨⟨some (vI z), m, rfl, hp, by rw [ht]; exact hP⟩, hS.F ht⟩) hS.2.2 hd hF.lk
theorem g_lreturn (hF : jOk F X own cc nl (some .long) dp) (hQ : jEnd F X Post) (hd : decode cc pc = .ok (.lreturn, 1)) {z : Int} (hp : Post (some (vL z)) m) : jG F X m pc lv [vL z] := by
  intro ls H locs hl hP hS
  obtain ⟨h1, h2, h3⟩ := hQ
  unfold jW
  rw [h1, h2, h3]
  exact W.lret hF.x hF.b hF.rr (fun t ht hW => ⟨⟨some (vL z), m, rfl, hp, by rw [ht]; exact hP⟩, hS.F ht⟩) hS.2.2 hd hF.lk
theorem g_freturn (hF : jOk F X own cc nl (some .float) dp) (hQ : jEnd F X Post) (hd : decode cc pc = .ok (.freturn, 1)) {z : UInt32} (hp : Post (some (vF z)) m) : jG F X m pc lv [vF z] := by
  intro ls H locs hl hP hS
  obtain ⟨h1, h2, h3⟩ := hQ
  unfold jW
  rw [h1, h2, h3]
  exact W.fret hF.x hF.b hF.rr (fun t ht hW => ⟨⟨some (vF z), m, rfl, hp, by rw [ht]; exact hP⟩, hS.F ht⟩) hS.2.2 hd hF.lk
theorem g_dreturn (hF : jOk F X own cc nl (some .double) dp) (hQ : jEnd F X Post) (hd : decode cc pc = .ok (.dreturn, 1)) {z : UInt64} (hp : Post (some (vD z)) m) : jG F X m pc lv [vD z] := by
  intro ls H locs hl hP hS
  obtain ⟨h1, h2, h3⟩ := hQ
  unfold jW
  rw [h1, h2, h3]
  exact W.dret hF.x hF.b hF.rr (fun t ht hW => ⟨⟨some (vD z), m, rfl, hp, by rw [ht]; exact hP⟩, hS.F ht⟩) hS.2.2 hd hF.lk
theorem g_return (hF : jOk F X own cc nl none dp) (hQ : jEnd F X Post) (hd : decode cc pc = .ok (.return_, 1)) (hp : Post none m) : jG F X m pc lv [] := by
  intro ls H locs hl hP hS
  obtain ⟨h1, h2, h3⟩ := hQ
  unfold jW
  rw [h1, h2, h3]
  exact W.vret hF.x hF.b hF.rr (fun t ht hW => ⟨⟨none, m, rfl, hp, by rw [ht]; exact hP⟩, hS.F ht⟩) hS.2.2 hd hF.lk
theorem g_areturn {C : String} (hF : jOk F X own cc nl (some (.object C)) dp) (hQ : jEnd F X Post) (hd : decode cc pc = .ok (.areturn, 1)) {r : Nat × Nat} (hp : Post (some (.inr (.inl r))) m) : jG F X m pc lv [.inr (.inl r)] := by
  intro ls H locs hl hP hS
  obtain ⟨h1, h2, h3⟩ := hQ
  unfold jW
  rw [h1, h2, h3]
  exact W.aret hF.x hF.b hF.rr (Or.inl ⟨C, rfl⟩) (Or.inr ⟨xa X (cid r), rfl⟩) (fun t ht hW => ⟨⟨some (.inr (.inl r)), m, rfl, hp, by rw [ht]; exact hP⟩, hS.F ht⟩) hS.2.2 hd hF.lk
/-! calls -/
theorem jsum (X : jX) : ∀ l : List jV, ((l.map (dn X)).map fun v => v.category).sum ≤ 2 * l.length
  | [] => Nat.le_refl _
  | v :: l => by
    have h := jsum X l
    have h1 : (dn X v).category ≤ 2 := by rcases v with z | r | z | u | u <;> simp [dn, Value.category]
    simp only [List.map_cons, List.sum_cons, List.length_cons]
    omega
theorem jrun {H : Heap} {locs : List Loc} {ls : Array Slot} {st0 : List Value} {rest : List jV} {a : Array Value} (hr : va_Run (fp F) (xl X) (fe F) (fR F) (fs F) (fm F) (fa F) (fb F) (ft F) (fc F) H locs (fk F) (fn F) 0 0 (F0 (fm F) pc ls st0) (rest.map (dn X)) (jQ X Post a) (jA X)) (hl : lv_has ls (fc F).maxLocals (jlv X lv)) (hS : va_S (jA X) (fs F).heap H locs)
    (k : ∀ (r : Option jV) (m' : jM), Post r m' → jG F X m' (pc + 3) lv (r.toList ++ rest)) : jW F X H locs (F0 (fm F) pc ls st0) := by
  intro T hT Y
  obtain ⟨v, st₀, t, T', L, h0, Y', hL, e1, e2, ⟨⟨r, m', hv, hp, hP'⟩, hz, hk⟩, sg⟩ := hr T hT Y
  cases hv
  rw [h0] at hz hk
  have kk := k r m' hp ls T'.heap (locs ++ L) hl (by rw [e1]; exact hP')
    ⟨Nat.le_trans hS.1 (by rw [e1]; exact hz), fun q h1 h2 => by rw [e1, hk q (Nat.lt_of_lt_of_le h1 hS.1) h2]; exact hS.2.1 q h1 h2, fun q hq => by
      rcases List.mem_append.mp hq with h | h
      · exact hS.2.2 q h
      · exact hL q h⟩
  obtain ⟨t2, a1, b1⟩ := kk T' rfl Y'
  refine ⟨t2, sg t2 ?_, b1⟩
  have e : (r.toList ++ rest).map (dn X) = (r.map (dn X)).toList ++ rest.map (dn X) := by cases r <;> rfl
  rw [e] at a1
  exact a1
/-- a call's words: by the receiver's class; by a class; by a nest mate's -/
def jlkV (own : String) (idx : Nat) (C : String) (y : MethodName) (bytes : ByteArray) (maxL : Nat) (ret : Option FieldType) (n : Nat) : Prop :=
  (y.cls = C ∧ y.cls ≠ "java/lang/invoke/MethodHandle" ∧ y.cls ≠ "java/lang/invoke/VarHandle" ∧ (parseMethodDescriptor y.desc).map (fun d => d.parameters.length) = some n) ∧ (∀ w ∈ ([.methodLink own idx y, .instanceMethod y, .selects C y y, .initialized C] : List Cond), w ∈ Tb) ∧ Cond.code y bytes maxL ret ∈ Tb ∧ maxL ≤ 180
def jlkS (own : String) (idx : Nat) (y : MethodName) (bytes : ByteArray) (maxL : Nat) (ret : Option FieldType) (n : Nat) : Prop :=
  (y.cls ≠ "java/lang/invoke/MethodHandle" ∧ y.cls ≠ "java/lang/invoke/VarHandle" ∧ (parseMethodDescriptor y.desc).map (fun d => d.parameters.length) = some n) ∧ (∀ w ∈ ([.methodLink own idx y, .static y, .initialized y.cls] : List Cond), w ∈ Tb) ∧ Cond.code y bytes maxL ret ∈ Tb ∧ maxL ≤ 180
def jlkN (own : String) (idx : Nat) (y : MethodName) (bytes : ByteArray) (maxL : Nat) (ret : Option FieldType) (n : Nat) (host : String) : Prop :=
  (y.cls ≠ "java/lang/invoke/MethodHandle" ∧ y.cls ≠ "java/lang/invoke/VarHandle" ∧ (parseMethodDescriptor y.desc).map (fun d => d.parameters.length) = some n) ∧ Cond.methodLinkNest own idx y host ∈ Tn ∧ (∀ w ∈ ([.static y, .initialized y.cls] : List Cond), w ∈ Tb) ∧ Cond.code y bytes maxL ret ∈ Tb ∧ maxL ≤ 180
theorem jpre_at (hF : jOk F X own cc nl rt dp) {H : Heap} {locs : List Loc} (hP : va_P (xD X) jC (wl X m) H) (hS : va_S (jA X) (fs F).heap H locs) {as : List Value} : ∀ U : State, U.heap = H → (fs F).WarmedH U.vm → va_Pc as (jPre X m) as.toArray U := by
  intro U hU hW
  exact ⟨rfl, by rw [hU]; exact Nat.le_trans hF.base hS.1, by rw [hU]; exact hP, hF.K.moved hW.alike, hF.Z.warm hW (fun q h1 h2 => by rw [hU]; exact hS.2.1 q h1 h2)⟩
theorem jstk {as : List jV} {rest : List jV} (h : st = as.reverse ++ rest) : st.map (dn X) = (as.map (dn X)).reverse ++ rest.map (dn X) := by rw [h, List.map_append, List.map_reverse]
variable {y : MethodName} {bytes : ByteArray} {maxL n idx d : Nat} {ret : Option FieldType}
theorem g_callV (hF : jOk F X own cc nl rt dp) {C : String} {r : Nat × Nat} {as rest : List jV} (hlk : jlkV own idx C y bytes maxL ret n) (hc : Con X y bytes maxL ret d (.inr (.inl r) :: as) m Post) (hd : decode cc pc = .ok (.invokevirtual idx, 3)) (hdp : d + 1 ≤ dp) (hst : st = as.reverse ++ .inr (.inl r) :: rest) (hn : as.length = n) {ci : Nat} {vs : List jV} (hv : fvals m r = some (ci, vs)) (hC : (jC[ci]?).map (fun q => q.1) = some C) (hr : jok r) (hrest : rest.length ≤ 4)
    (k : ∀ (v : Option jV) (m' : jM), Post v m' → jG F X m' (pc + 3) lv (v.toList ++ rest)) : jG F X m pc lv st := by
  obtain ⟨⟨y1, y2, y3, y4⟩, hw, hcode, hmx⟩ := hlk
  intro ls H locs hl hP hS
  obtain ⟨R1, R2, R3, R4⟩ := hF.R
  cases hq : jC[ci]? with
  | none => rw [hq] at hC; cases hC
  | some q =>
    rw [hq] at hC
    have hCq : q.1 = C := Option.some.inj hC
    have he : (wl X m)[cid r]? = some (xa X (cid r), .inr (ci, vs.map (dn X))) := by rw [wl_get X m (jok_lt hr), fvals_ok X hv hr]
    have hrecv := va_recv hF.K hP hq he
    rw [hCq] at hrecv
    have hcw := cwV (s := fs F) (args := fa F) (R := fR F) (own := own) (index := idx) (C := C) (y := y) (bytes := bytes) (maxL := maxL) (ret := ret) (rm := jrm d 0 0) (ws := .code y bytes maxL ret :: Tb) n hF.ts (Tb_app (Tb_sub hw) hcode) rfl rfl rfl ⟨y1, y2, y3, y4⟩ ⟨Nat.le_trans hdp R1, Nat.le_trans (show 8 + (maxL + 11) + 200 * d ≤ 200 * dp by omega) R2⟩
    have e : st.map (dn X) = (as.map (dn X)).reverse ++ .ref (xa X (cid r)) :: rest.map (dn X) := by rw [hst, List.map_append, List.map_reverse]; rfl
    rw [e]
    exact jrun (va_runV (As := as.map (dn X)) (rest := rest.map (dn X)) ⟨hF.x, hF.b, rfl, hF.o, hF.ts⟩ hc hcw ⟨jblind, hrecv, jpre_at hF hP hS (as := dn X (.inr (.inl r)) :: as.map (dn X))⟩ rfl (by rw [List.length_map]; exact hn) hl.1 rfl (lv_room (Nat.le_trans (jsum X rest) (by omega))) hd ⟨R3, R4⟩) hl hS k
theorem g_callS (hF : jOk F X own cc nl rt dp) {as rest : List jV} (hlk : jlkS own idx y bytes maxL ret n) (hc : Con X y bytes maxL ret d as m Post) (hd : decode cc pc = .ok (.invokestatic idx, 3)) (hdp : d + 1 ≤ dp) (hst : st = as.reverse ++ rest) (hn : as.length = n) (hrest : rest.length ≤ 4)
    (k : ∀ (v : Option jV) (m' : jM), Post v m' → jG F X m' (pc + 3) lv (v.toList ++ rest)) : jG F X m pc lv st := by
  obtain ⟨hy, hw, hcode, hmx⟩ := hlk
  intro ls H locs hl hP hS
  obtain ⟨R1, R2, R3, R4⟩ := hF.R
  have hcw := va_cwS (s := fs F) (args := fa F) (R := fR F) (own := own) (index := idx) (y := y) (bytes := bytes) (maxL := maxL) (ret := ret) (rm := jrm d 0 0) (ws := .code y bytes maxL ret :: Tb) n hF.ts (Tb_app (Tb_sub hw) hcode) rfl rfl rfl hy ⟨Nat.le_trans hdp R1, Nat.le_trans (show 8 + (maxL + 11) + 200 * d ≤ 200 * dp by omega) R2⟩
  rw [jstk hst]
  exact jrun (va_runS (As := as.map (dn X)) (rest := rest.map (dn X)) ⟨hF.x, hF.b, rfl, hF.o, hF.ts⟩ hc hcw ⟨jblind, jpre_at hF hP hS⟩ rfl (by rw [List.length_map]; exact hn) hl.1 rfl (lv_room (Nat.le_trans (jsum X rest) (by omega))) hd ⟨R3, R4⟩) hl hS k
theorem g_callN (hF : jOk F X own cc nl rt dp) {as rest : List jV} {host : String} (hlk : jlkN own idx y bytes maxL ret n host) (hc : Con X y bytes maxL ret d as m Post) (hd : decode cc pc = .ok (.invokestatic idx, 3)) (hdp : d + 1 ≤ dp) (hst : st = as.reverse ++ rest) (hn : as.length = n) (hrest : rest.length ≤ 4)
    (k : ∀ (v : Option jV) (m' : jM), Post v m' → jG F X m' (pc + 3) lv (v.toList ++ rest)) : jG F X m pc lv st := by
  obtain ⟨hy, hnest, hw, hcode, hmx⟩ := hlk
  intro ls H locs hl hP hS
  obtain ⟨R1, R2, R3, R4⟩ := hF.R
  have hcw := va_cnB (s := fs F) (args := fa F) (R := fR F) (own := own) (host := host) (index := idx) (y := y) (bytes := bytes) (maxL := maxL) (ret := ret) (rm := jrm d 0 0) (ws := .code y bytes maxL ret :: Tb) n hF.ts (Tb_cons hcode) rfl rfl rfl (hF.Z.1 _ hnest) (hF.ts _ (hw _ (by simp))) hy ⟨Nat.le_trans hdp R1, Nat.le_trans (show 8 + (maxL + 11) + 200 * d ≤ 200 * dp by omega) R2⟩
  rw [jstk hst]
  exact jrun (va_runSN (As := as.map (dn X)) (rest := rest.map (dn X)) ⟨hF.x, hF.b, rfl, hF.o, hF.ts⟩ hc ⟨hcw, hF.ts _ (hw _ (by simp)), trivial⟩ ⟨jblind, jpre_at hF hP hS⟩ rfl (by rw [List.length_map]; exact hn) hl.1 rfl (lv_room (Nat.le_trans (jsum X rest) (by omega))) hd ⟨R3, R4⟩) hl hS k
/-! throws -/
theorem jrunX {H : Heap} {locs : List Loc} {ls : Array Slot} {st0 : List Value} {rest : List jV} {E : String} {P P0 : jM → Prop} (hF : jOk F X own cc nl rt dp) (hQ : jEndX F X P E) (hs : ∀ m' : jM, P0 m' → P m') (hr : vx_Run (fp F) (xl X) (fe F) (fR F) (fs F) (fm F) (fa F) (fb F) (ft F) (fc F) H locs (fk F) (fn F) 1 6 (F0 (fm F) pc ls st0) (rest.map (dn X)) (fun _ _ _ => False) (jXC X P0 E) (jA X)) (hS : va_S (jA X) (fs F).heap H locs) : jW F X H locs (F0 (fm F) pc ls st0) := by
  obtain ⟨q1, q2, q3, q4, -, -⟩ := hQ
  intro T hT Y
  rcases hr T hT Y with ⟨v, st₀, t, T', L, h0, Y', hL, e1, e2, hq, sg⟩ | ⟨q, st₀, t, T', L, E', ce, h0, Y', hL, e1, e2, ⟨hE, ⟨m', hm', hP'⟩, hz, hk⟩, hce, hcv, hcl, sg⟩
  · exact hq.elim
  rw [h0] at hz hk
  have hS' : va_S (jA X) (fs F).heap T'.heap (locs ++ L) :=
    ⟨Nat.le_trans hS.1 (by rw [e1]; exact hz), fun q h1 h2 => by rw [e1, hk q (Nat.lt_of_lt_of_le h1 hS.1) h2]; exact hS.2.1 q h1 h2, fun q hq => by
      rcases List.mem_append.mp hq with h | h
      · exact hS.2.2 q h
      · exact hL q h⟩
  rw [q1]
  rw [q2, q3] at Y'
  obtain ⟨t2, a1, b1⟩ := vx_out (p := fp F) (e := fe F) (R := fR F) (below := fb F) (Qc := fun _ _ _ _ => False) (XC := jXC X P E) (args := fa F) (mc := 1) (ms := 6) (free := jA X) (pc := pc) (ls := ls) (rest := rest.map (dn X)) (E := E') (q := q) (fun x hx => (q4 x hx).elim) hF.lk (by rw [e1]; exact hce) hcv hcl (fun u hu hA => ⟨hE, ⟨m', hs m' hm', by rw [hu, e1]; exact hP'⟩, va_S.F hS' hu⟩) hS'.2.2 (Nat.le_refl _) (Nat.le_refl _) T' rfl Y'
  exact ⟨t2, sg.trans a1, b1⟩
theorem g_callXV (hF : jOk F X own cc nl rt dp) {E : String} {P P0 : jM → Prop} (hQ : jEndX F X P E) {C : String} {r : Nat × Nat} {as rest : List jV} (hlk : jlkV own idx C y bytes maxL ret n) (hc : ConXP X y bytes maxL ret d (.inr (.inl r) :: as) m P0 E) (hd : decode cc pc = .ok (.invokevirtual idx, 3)) (hdp : d + 1 ≤ dp) (hst : st = as.reverse ++ .inr (.inl r) :: rest) (hn : as.length = n) {ci : Nat} {vs : List jV} (hv : fvals m r = some (ci, vs)) (hC : (jC[ci]?).map (fun q => q.1) = some C) (hr : jok r) (hrest : rest.length ≤ 4) (hs : ∀ m' : jM, P0 m' → P m' := by exact fun _ h => h) : jG F X m pc lv st := by
  obtain ⟨⟨y1, y2, y3, y4⟩, hw, hcode, hmx⟩ := hlk
  intro ls H locs hl hP hS
  obtain ⟨R1, R2, R3, R4⟩ := hF.R
  cases hq : jC[ci]? with
  | none => rw [hq] at hC; cases hC
  | some q =>
    rw [hq] at hC
    have hCq : q.1 = C := Option.some.inj hC
    have he : (wl X m)[cid r]? = some (xa X (cid r), .inr (ci, vs.map (dn X))) := by rw [wl_get X m (jok_lt hr), fvals_ok X hv hr]
    have hrecv := va_recv hF.K hP hq he
    rw [hCq] at hrecv
    have hcw := cwV (s := fs F) (args := fa F) (R := fR F) (own := own) (index := idx) (C := C) (y := y) (bytes := bytes) (maxL := maxL) (ret := ret) (rm := jrm d 1 6) (ws := .code y bytes maxL ret :: Tb) n hF.ts (Tb_app (Tb_sub hw) hcode) rfl rfl rfl ⟨y1, y2, y3, y4⟩ ⟨Nat.le_trans hdp R1, Nat.le_trans (show 8 + (maxL + 11) + 200 * d ≤ 200 * dp by omega) R2⟩
    have e : st.map (dn X) = (as.map (dn X)).reverse ++ .ref (xa X (cid r)) :: rest.map (dn X) := by rw [hst, List.map_append, List.map_reverse]; rfl
    rw [e]
    exact jrunX hF hQ hs (vx_runV (As := as.map (dn X)) (rest := rest.map (dn X)) ⟨hF.x, hF.b, rfl, hF.o, hF.ts⟩ hc hcw ⟨jblind, hrecv, jpre_at hF hP hS (as := dn X (.inr (.inl r)) :: as.map (dn X))⟩ rfl (by rw [List.length_map]; exact hn) hl.1 rfl (lv_room (Nat.le_trans (jsum X rest) (by omega))) hd ⟨by rw [hQ.2.1, hQ.2.2.2.2.1]; exact Nat.le_refl _, by rw [hQ.2.2.1, hQ.2.2.2.2.2]; exact Nat.le_refl _⟩) hS
theorem g_callXS (hF : jOk F X own cc nl rt dp) {E : String} {P P0 : jM → Prop} (hQ : jEndX F X P E) {as rest : List jV} (hlk : jlkS own idx y bytes maxL ret n) (hc : ConXP X y bytes maxL ret d as m P0 E) (hd : decode cc pc = .ok (.invokestatic idx, 3)) (hdp : d + 1 ≤ dp) (hst : st = as.reverse ++ rest) (hn : as.length = n) (hrest : rest.length ≤ 4) (hs : ∀ m' : jM, P0 m' → P m' := by exact fun _ h => h) : jG F X m pc lv st := by
  obtain ⟨hy, hw, hcode, hmx⟩ := hlk
  intro ls H locs hl hP hS
  obtain ⟨R1, R2, R3, R4⟩ := hF.R
  have hcw := va_cwS (s := fs F) (args := fa F) (R := fR F) (own := own) (index := idx) (y := y) (bytes := bytes) (maxL := maxL) (ret := ret) (rm := jrm d 1 6) (ws := .code y bytes maxL ret :: Tb) n hF.ts (Tb_app (Tb_sub hw) hcode) rfl rfl rfl hy ⟨Nat.le_trans hdp R1, Nat.le_trans (show 8 + (maxL + 11) + 200 * d ≤ 200 * dp by omega) R2⟩
  rw [jstk hst]
  exact jrunX hF hQ hs (vx_runS (As := as.map (dn X)) (rest := rest.map (dn X)) ⟨hF.x, hF.b, rfl, hF.o, hF.ts⟩ hc hcw ⟨jblind, jpre_at hF hP hS⟩ rfl (by rw [List.length_map]; exact hn) hl.1 rfl (lv_room (Nat.le_trans (jsum X rest) (by omega))) hd ⟨by rw [hQ.2.1, hQ.2.2.2.2.1]; exact Nat.le_refl _, by rw [hQ.2.2.1, hQ.2.2.2.2.2]; exact Nat.le_refl _⟩) hS
end JE

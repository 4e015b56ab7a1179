/-! CONSTRUCTORS: worlds that grow -/
/-- launch; classes and slots; the array classes by their element's type; the free addresses -/
abbrev kX : Type := Launch × va_G × (FieldType → ClassId) × (Nat → Prop)
abbrev kl (Y : kX) : Launch := Y.1
abbrev kD (Y : kX) : va_G := Y.2.1
abbrev kc (Y : kX) : FieldType → ClassId := Y.2.2.1
abbrev kA (Y : kX) : Nat → Prop := Y.2.2.2
def kUq (Y : kX) (U : State) : Prop := ∀ (ty : FieldType) (c : ClassId), va_RA U c ty → c = kc Y ty
theorem kUq.moved {Y : kX} {u U : State} (h : kUq Y u) (hvm : u.vm.Alike U.vm) : kUq Y U := fun ty c q => h ty c (q.moved hvm.symm)
def kPre (Y : kX) (T0 : List (ClassId × FieldType)) (w : va_W) (U : State) : Prop := (∀ q : Nat, U.heap.size ≤ q → kA Y q) ∧ va_P (kD Y) jC w U.heap ∧ va_D (kA Y) w ∧ va_K (kD Y) jC T0 U ∧ (∀ v ∈ Tn, va_Nw v U) ∧ va_AO RX2 U ∧ kUq Y U
def kQ (Y : kX) (T : List (ClassId × FieldType)) (Post : va_W → Prop) : Array Value → State → Outcome → State → Prop := fun _ st oc t => (∃ w : va_W, oc = .returned none ∧ Post w ∧ va_P (kD Y) jC w t.heap ∧ va_D (kA Y) w ∧ va_K (kD Y) jC T t) ∧ va_F (kA Y) st t
/-- a constructor: the cells L behind any others become L', told by R -/
def KCon (Y : kX) (y : MethodName) (cc : ByteArray) (nl dp mc ms : Nat) (as : List Value) (T0 : List (ClassId × FieldType)) (L : va_W) (T : List (ClassId × FieldType)) (R : va_W → Prop) : Prop :=
  ∀ pre : va_W, Met (kl Y) y (.code y cc nl none :: Tb) (jrm dp mc ms) (va_Pc as (kPre Y T0 (pre ++ L))) (kQ Y T (fun w => ∃ L' : va_W, R L' ∧ w = pre ++ L')) mc ms (kA Y)
def kOk (F : jF) (Y : kX) (own : String) (cc : ByteArray) (nl dp : Nat) : Prop :=
  (fp F).tables.exec = Jvm.exec ∧ (fc F).code = cc ∧ (fc F).maxLocals = nl ∧ (fs F).vm.findClass own = some (fm F).cls ∧ (∀ w ∈ Tb, w.before (fa F) (fs F) = true) ∧ (∀ q : Nat, (fs F).heap.size ≤ q → kA Y q) ∧ (∀ v ∈ Tn, va_Nw v (fs F)) ∧ va_AO RX2 (fs F) ∧ kUq Y (fs F) ∧ (ft F).locks = false ∧ dp ≤ (fR F).frames ∧ 200 * dp ≤ (fR F).locals
def kG (F : jF) (Y : kX) (T : List (ClassId × FieldType)) (P L : va_W) (k n pc : Nat) (lv : List (Nat × Value)) (st : List Value) : Prop :=
  ∀ (ls : Array Slot) (H : Heap) (locs : List Loc), lv_has ls (fc F).maxLocals lv → va_K (kD Y) jC T (fs F) → va_P (kD Y) jC (P ++ L) H → va_D (kA Y) (P ++ L) → va_S (kA Y) (fs F).heap H locs → W (fp F) (kl Y) (fe F) (fR F) (fs F) (fm F) (fa F) (fb F) (ft F) (fc F) H locs k n (fQ F) (F0 (fm F) pc ls st)
def kEnd (F : jF) (Y : kX) (T : List (ClassId × FieldType)) (Post : va_W → Prop) (mc ms : Nat) : Prop := fQ F = MQ (fb F) (kQ Y T Post) (fa F) (fs F) mc ms (kA Y) ∧ (ft F).sig.returnType = none ∧ (ft F).name = "<init>" ∧ (fR F).cells = mc ∧ (fR F).slots = ms
theorem kblind {Y : kX} {T0 : List (ClassId × FieldType)} {w : va_W} {as : List Value} : FrameBlind (va_Pc as (kPre Y T0 w)) := by
  intro a U g mk h
  obtain ⟨h0, h1, h2, h3, h4, h5, h6, h7⟩ := h
  exact ⟨h0, h1, h2, h3, va_K.moved (u := U) (U := U.calling g mk a) (Vm.Alike.refl U.vm) h4, fun v hv => Tn_warm (List.mem_filter.mp hv).2 (State.WarmedH.refl U) (h5 v hv), va_AO.moved (u := U) (U := U.calling g mk a) (Vm.Alike.refl U.vm) h6, kUq.moved (u := U) (U := U.calling g mk a) h7 (Vm.Alike.refl U.vm)⟩
theorem kK_sub {D : va_G} {T T2 : List (ClassId × FieldType)} {U : State} (h : va_K D jC T U) (hs : ∀ q ∈ T2, q ∈ T) : va_K D jC T2 U := by
  refine ⟨h.1, fun k q hk => ?_⟩
  obtain ⟨i, hi⟩ := List.getElem?_of_mem (hs q (List.mem_of_getElem? hk))
  exact h.2 i q hi
theorem kK_one {D : va_G} {T : List (ClassId × FieldType)} {U : State} (h : va_K D jC T U) {q : ClassId × FieldType} (hq : q ∈ T) : ArrOfT U q.1 q.2 ∧ va_RA U q.1 q.2 := by
  obtain ⟨i, hi⟩ := List.getElem?_of_mem hq
  exact h.2 i q hi
theorem kP_iff {D : va_G} {w : va_W} {H : Heap} : va_P D jC w H ↔ ∀ q ∈ w, va_at D jC q H := by
  constructor
  · intro h q hq
    obtain ⟨i, hi⟩ := List.getElem?_of_mem hq
    exact h i q hi
  · intro h k q hk
    exact h q (List.mem_of_getElem? hk)
theorem kD_iff {A : Nat → Prop} {w : va_W} : va_D A w ↔ (w.map Prod.fst).Nodup ∧ ∀ q ∈ w, A q.1 := by
  constructor
  · intro h
    refine ⟨?_, fun q hq => ?_⟩
    · unfold List.Nodup
      rw [List.pairwise_iff_getElem]
      intro i j hi hj hij e
      rw [List.length_map] at hi hj
      rw [List.getElem_map, List.getElem_map] at e
      have := h.1 i j _ _ (List.getElem?_eq_getElem hi) (List.getElem?_eq_getElem hj) e
      omega
    · obtain ⟨i, hi⟩ := List.getElem?_of_mem hq
      exact h.2 i q hi
  · rintro ⟨h1, h2⟩
    refine ⟨fun i j p q hi hj e => ?_, fun k q hk => h2 q (List.mem_of_getElem? hk)⟩
    unfold List.Nodup at h1
    rw [List.pairwise_iff_getElem] at h1
    obtain ⟨hi1, hi2⟩ := List.getElem?_eq_some_iff.mp hi
    obtain ⟨hj1, hj2⟩ := List.getElem?_eq_some_iff.mp hj
    rcases Nat.lt_trichotomy i j with c | c | c
    · refine absurd ?_ (h1 i j (by rw [List.length_map]; exact hi1) (by rw [List.length_map]; exact hj1) c)
      rw [List.getElem_map, List.getElem_map, hi2, hj2, e]
    · exact c
    · refine absurd ?_ (h1 j i (by rw [List.length_map]; exact hj1) (by rw [List.length_map]; exact hi1) c)
      rw [List.getElem_map, List.getElem_map, hi2, hj2, e]
theorem kP_perm {D : va_G} {w w2 : va_W} {H : Heap} (h : w.Perm w2) (hP : va_P D jC w H) : va_P D jC w2 H := kP_iff.mpr (fun q hq => kP_iff.mp hP q (h.mem_iff.mpr hq))
theorem kD_perm {A : Nat → Prop} {w w2 : va_W} (h : w.Perm w2) (hD : va_D A w) : va_D A w2 := by
  obtain ⟨h1, h2⟩ := kD_iff.mp hD
  exact kD_iff.mpr ⟨(h.map Prod.fst).nodup_iff.mp h1, fun q hq => h2 q (h.mem_iff.mpr hq)⟩
theorem KCon.of {Y : kX} {y : MethodName} {cc : ByteArray} {nl dp mc ms : Nat} {as : List Value} {T0 : List (ClassId × FieldType)} {L : va_W} {T : List (ClassId × FieldType)} {R : va_W → Prop} (hy : plainName y.cls = true) (hn : (lg_sl as).length ≤ nl)
    (body : ∀ (pre : va_W) (F : jF), kOk F Y y.cls cc nl dp → fQ F = MQ (fb F) (kQ Y T (fun w => ∃ L' : va_W, R L' ∧ w = pre ++ L')) (fa F) (fs F) mc ms (kA Y) → (ft F).sig.returnType = none → (ft F).name = y.name → fR F = jrm dp mc ms → kG F Y T0 pre L 0 0 0 (lv_args 0 as) []) : KCon Y y cc nl dp mc ms as T0 L T R := by
  intro pre
  refine Met.ofW (cc := cc) (maxL := nl) (ret := none) hy rfl ?_
  intro p e s mm args below meth c s₁ B hml hv
  obtain ⟨rfl, hA, hP, hD, hK, hN, hO, hU⟩ := hv
  have hts := atoms_spec (ws := .code y cc nl none :: Tb) B.pre
  rw [lg_entry_eq]
  have hl := lv_entry as (n := nl) hn
  exact body pre (p, e, jrm dp mc ms, s, mm, as.toArray, below, meth, c, 0, 0, MQ below (kQ Y T (fun w => ∃ L' : va_W, R L' ∧ w = pre ++ L')) as.toArray s mc ms (kA Y))
    ⟨B.exec, B.bytes, hml, findClass_of_methodNamed B.named, fun w h => hts w (List.mem_cons_of_mem _ h), hA, hN, hO, hU, B.notSynchronized, Nat.le_refl _, Nat.le_refl _⟩ rfl B.returns (name_of_methodNamed B.named B.method).1 rfl _ _ _ (by rw [hml]; exact hl) hK hP hD va_S.rf
section KR
variable {F : jF} {Y : kX} {T : List (ClassId × FieldType)} {P L : va_W} {k n pc : Nat} {lv : List (Nat × Value)} {st : List Value} {own : String} {cc : ByteArray} {nl dp : Nat}
theorem kOk.x (h : kOk F Y own cc nl dp) : (fp F).tables.exec = Jvm.exec := h.1
theorem kOk.b (h : kOk F Y own cc nl dp) : (fc F).code = cc := h.2.1
theorem kOk.ml (h : kOk F Y own cc nl dp) : (fc F).maxLocals = nl := h.2.2.1
theorem kOk.o (h : kOk F Y own cc nl dp) : (fs F).vm.findClass own = some (fm F).cls := h.2.2.2.1
theorem kOk.ts (h : kOk F Y own cc nl dp) : ∀ w ∈ Tb, w.before (fa F) (fs F) = true := h.2.2.2.2.1
theorem kOk.A (h : kOk F Y own cc nl dp) : ∀ q : Nat, (fs F).heap.size ≤ q → kA Y q := h.2.2.2.2.2.1
theorem kOk.N (h : kOk F Y own cc nl dp) : ∀ v ∈ Tn, va_Nw v (fs F) := h.2.2.2.2.2.2.1
theorem kOk.O (h : kOk F Y own cc nl dp) : va_AO RX2 (fs F) := h.2.2.2.2.2.2.2.1
theorem kOk.U (h : kOk F Y own cc nl dp) : kUq Y (fs F) := h.2.2.2.2.2.2.2.2.1
theorem kOk.lk (h : kOk F Y own cc nl dp) : (ft F).locks = false := h.2.2.2.2.2.2.2.2.2.1
theorem kOk.R (h : kOk F Y own cc nl dp) : dp ≤ (fR F).frames ∧ 200 * dp ≤ (fR F).locals := h.2.2.2.2.2.2.2.2.2.2
theorem k_T {T2 : List (ClassId × FieldType)} (hs : ∀ q ∈ T2, q ∈ T) (kk : kG F Y T2 P L k n pc lv st) : kG F Y T P L k n pc lv st := fun ls H locs hl hK hP hD hS => kk ls H locs hl (kK_sub hK hs) hP hD hS
theorem k_n {k2 n2 : Nat} (h1 : k ≤ k2) (h2 : n ≤ n2) (kk : kG F Y T P L k2 n2 pc lv st) : kG F Y T P L k n pc lv st := fun ls H locs hl hK hP hD hS => W.widen h1 h2 (kk ls H locs hl hK hP hD hS)
theorem k_l {lv2 : List (Nat × Value)} (hs : ∀ q ∈ lv2, q ∈ lv) (kk : kG F Y T P L k n pc lv2 st) : kG F Y T P L k n pc lv st := fun ls H locs hl hK hP hD hS => kk ls H locs ⟨hl.1, hl.2.1, fun q hq => hl.2.2 q (hs q hq)⟩ hK hP hD hS
theorem k_w {P2 L2 : va_W} (h : P ++ L = P2 ++ L2) (kk : kG F Y T P2 L2 k n pc lv st) : kG F Y T P L k n pc lv st := fun ls H locs hl hK hP hD hS => kk ls H locs hl hK (by rw [← h]; exact hP) (by rw [← h]; exact hD) hS
/-- the last cells set aside -/
theorem k_mov (i : Nat) (kk : kG F Y T (P ++ L.drop i) (L.take i) k n pc lv st) : kG F Y T P L k n pc lv st := by
  intro ls H locs hl hK hP hD hS
  have h : (P ++ L).Perm ((P ++ L.drop i) ++ L.take i) := by
    rw [List.append_assoc]
    refine List.Perm.append_left P ?_
    have h2 := List.perm_append_comm (l₁ := L.take i) (l₂ := L.drop i)
    rw [List.take_append_drop] at h2
    exact h2
  exact kk ls H locs hl hK (kP_perm h hP) (kD_perm h hD) hS
theorem k_aload (hF : kOk F Y own cc nl dp) {k0 : Fin 4} {a : Nat} (i : Nat) (hd : decode cc pc = .ok (.aload_n k0, 1)) (hg : lv[i]? = some ((k0 : Nat), .ref a)) (kk : kG F Y T P L k n (pc + 1) lv (.ref a :: st)) : kG F Y T P L k n pc lv st := fun ls H locs hl hK hP hD hS => lv_aload_n hF.x hF.b hd rfl (lv_at hl i hg) (kk ls H locs hl hK hP hD hS)
theorem k_iload (hF : kOk F Y own cc nl dp) {k0 : Fin 4} {a : Int32} (i : Nat) (hd : decode cc pc = .ok (.iload_n k0, 1)) (hg : lv[i]? = some ((k0 : Nat), .int a)) (kk : kG F Y T P L k n (pc + 1) lv (.int a :: st)) : kG F Y T P L k n pc lv st := fun ls H locs hl hK hP hD hS => lv_iload_n hF.x hF.b hd rfl (lv_at hl i hg) (kk ls H locs hl hK hP hD hS)
theorem k_bip (hF : kOk F Y own cc nl dp) {z : Int} (hd : decode cc pc = .ok (.bipush z, 2)) (h1 : -128 ≤ z ∧ z ≤ 127) (kk : kG F Y T P L k n (pc + 2) lv (.int (Int32.ofInt z) :: st)) : kG F Y T P L k n pc lv st := fun ls H locs hl hK hP hD hS => lv_bipush hF.x hF.b hd (ji_bip h1.1 h1.2) (kk ls H locs hl hK hP hD hS)
theorem k_sip (hF : kOk F Y own cc nl dp) {z : Int} (hd : decode cc pc = .ok (.sipush z, 3)) (h1 : -32768 ≤ z ∧ z ≤ 32767) (kk : kG F Y T P L k n (pc + 3) lv (.int (Int32.ofInt z) :: st)) : kG F Y T P L k n pc lv st := fun ls H locs hl hK hP hD hS => lv_sipush hF.x hF.b hd (ji_sip h1.1 h1.2) (kk ls H locs hl hK hP hD hS)
theorem k_ico (hF : kOk F Y own cc nl dp) {z : Int} (hd : decode cc pc = .ok (.iconst z, 1)) (kk : kG F Y T P L k n (pc + 1) lv (.int (Int32.ofInt z) :: st)) : kG F Y T P L k n pc lv st := fun ls H locs hl hK hP hD hS => lv_iconst hF.x hF.b hd rfl (kk ls H locs hl hK hP hD hS)
theorem k_dup (hF : kOk F Y own cc nl dp) {a : Nat} (hd : decode cc pc = .ok (.dup, 1)) (kk : kG F Y T P L k n (pc + 1) lv (.ref a :: .ref a :: st)) : kG F Y T P L k n pc lv (.ref a :: st) := fun ls H locs hl hK hP hD hS => lv_dup hF.x hF.b hd rfl (kk ls H locs hl hK hP hD hS)
theorem k_goto (hF : kOk F Y own cc nl dp) {off : Int} {tgt : Nat} (hd : decode cc pc = .ok (.goto off, 3)) (ht : (pc : Int) + off = (tgt : Int)) (kk : kG F Y T P L k n tgt lv st) : kG F Y T P L k n pc lv st := fun ls H locs hl hK hP hD hS => lv_goto hF.x hF.b hd ht (kk ls H locs hl hK hP hD hS)
theorem k_ge (hF : kOk F Y own cc nl dp) {a b : Int} {off : Int} {tgt : Nat} (hd : decode cc pc = .ok (.if_icmp .ge off, 3)) (ht : (pc : Int) + off = (tgt : Int)) (ha : jr a) (hb : jr b) (kt : b ≤ a → kG F Y T P L k n tgt lv st) (kf : ¬ b ≤ a → kG F Y T P L k n (pc + 3) lv st) : kG F Y T P L k n pc lv (.int (Int32.ofInt b) :: .int (Int32.ofInt a) :: st) := fun ls H locs hl hK hP hD hS => lv_icmp_ge hF.x hF.b hd ht (fun h => kt ((ji_le hb ha).mp h) ls H locs hl hK hP hD hS) (fun h => kf (fun q => h ((ji_le hb ha).mpr q)) ls H locs hl hK hP hD hS)
theorem k_istore (hF : kOk F Y own cc nl dp) {k0 : Fin 4} {a : Int32} (hd : decode cc pc = .ok (.istore_n k0, 1)) (hn : (k0 : Nat) < nl) (kk : kG F Y T P L k n (pc + 1) (((k0 : Nat), .int a) :: lv.filter (fun q => !(q.1 == (k0 : Nat)) && !(q.1 + 1 == (k0 : Nat) && q.2.category == 2))) st) : kG F Y T P L k n pc lv (.int a :: st) := fun ls H locs hl hK hP hD hS => lv_istore_n hF.x hF.b hd rfl hl (by rw [hF.ml]; exact hn) rfl (fun ls2 hl2 => kk ls2 H locs hl2 hK hP hD hS)
theorem k_istore5 (hF : kOk F Y own cc nl dp) {i : Nat} {a : Int32} (hd : decode cc pc = .ok (.istore i, 2)) (hn : i < nl) (kk : kG F Y T P L k n (pc + 2) ((i, .int a) :: lv.filter (fun q => !(q.1 == i) && !(q.1 + 1 == i && q.2.category == 2))) st) : kG F Y T P L k n pc lv (.int a :: st) := fun ls H locs hl hK hP hD hS => lv_istore hF.x hF.b hd hl (by rw [hF.ml]; exact hn) rfl (fun ls2 hl2 => kk ls2 H locs hl2 hK hP hD hS)
theorem k_astore (hF : kOk F Y own cc nl dp) {k0 : Fin 4} {a : Nat} (hd : decode cc pc = .ok (.astore_n k0, 1)) (hn : (k0 : Nat) < nl) (kk : kG F Y T P L k n (pc + 1) (((k0 : Nat), .ref a) :: lv.filter (fun q => !(q.1 == (k0 : Nat)) && !(q.1 + 1 == (k0 : Nat) && q.2.category == 2))) st) : kG F Y T P L k n pc lv (.ref a :: st) := fun ls H locs hl hK hP hD hS => lv_astore_n hF.x hF.b hd rfl hl (by rw [hF.ml]; exact hn) rfl (fun ls2 hl2 => kk ls2 H locs hl2 hK hP hD hS)
theorem k_astore4 (hF : kOk F Y own cc nl dp) {i : Nat} {a : Nat} (hd : decode cc pc = .ok (.astore i, 2)) (hn : i < nl) (kk : kG F Y T P L k n (pc + 2) ((i, .ref a) :: lv.filter (fun q => !(q.1 == i) && !(q.1 + 1 == i && q.2.category == 2))) st) : kG F Y T P L k n pc lv (.ref a :: st) := fun ls H locs hl hK hP hD hS => lv_astore hF.x hF.b hd hl (by rw [hF.ml]; exact hn) rfl (fun ls2 hl2 => kk ls2 H locs hl2 hK hP hD hS)
theorem k_iinc (hF : kOk F Y own cc nl dp) {i : Nat} {c z : Int} (j : Nat) (hd : decode cc pc = .ok (.iinc i c, 3)) (hg : lv[j]? = some (i, .int (Int32.ofInt z))) (hn : i < nl) (kk : kG F Y T P L k n (pc + 3) ((i, .int (Int32.ofInt (z + c))) :: lv.filter (fun q => !(q.1 == i) && !(q.1 + 1 == i && q.2.category == 2))) st) : kG F Y T P L k n pc lv st := fun ls H locs hl hK hP hD hS => lv_iinc hF.x hF.b hd hl hg (Int32.ofInt_add z c).symm (by rw [hF.ml]; exact hn) rfl (fun ls2 hl2 => kk ls2 H locs hl2 hK hP hD hS)
theorem k_alen (hF : kOk F Y own cc nl dp) (j t0 : Nat) {a N : Nat} {f : Nat → Int32} (he : (P ++ L)[j]? = some (a, .inl (kc Y .int, N, .inl f))) (ht : T[t0]? = some (kc Y .int, .int)) (hd : decode cc pc = .ok (.arraylength, 1)) (kk : kG F Y T P L k n (pc + 1) lv (.int (Int32.ofInt (N : Int)) :: st)) : kG F Y T P L k n pc lv (.ref a :: st) := by
  intro ls H locs hl hK hP hD hS
  refine va_alen hF.x hF.b hK hP j t0 he ht rfl hd ?_
  have e : (Int32.ofNat N) = Int32.ofInt (N : Int) := Int32.ofInt_eq_ofNat.symm
  first
  | exact kk ls H locs hl hK hP hD hS
  | (rw [e]; exact kk ls H locs hl hK hP hD hS)
theorem k_newarr (hF : kOk F Y own cc nl dp) {atype : ArrayType} {ty : FieldType} (hty : newarray.typeOf atype = ty) (harr : Cond.arrayClass (newarray.typeOf atype) ∈ Tb) {z : Int} {N : Nat} (a0 : vp_A) (hz : z = (N : Int)) (hN : N ≤ 100000) (ha : ∀ cA : ClassId, vp_cell cA a0 = arrV cA N (fun _ => defaultValue ty)) (hb : N * componentBytes ty ≤ 536870912) (h1 : k + 1 ≤ (fR F).cells) (h2 : n + N ≤ (fR F).slots) (hd : decode cc pc = .ok (.newarray atype, 2))
    (kk : ∀ q : Nat, kG F Y (T ++ [(kc Y ty, ty)]) P (L ++ [(q, .inl (kc Y ty, a0))]) (k + 1) (n + N) (pc + 2) lv (.ref q :: st)) : kG F Y T P L k n pc lv (.int (Int32.ofInt z) :: st) := by
  subst hz
  intro ls H locs hl hK hP hD hS
  refine va_newa (atype := atype) hF.x hF.b (hF.ts _ harr) hty hK hP hD hS hF.A (a0 := a0) (N' := N) ha (fun q => ?_) (by rw [ji_clamp (by omega) (by omega)]; omega) hb h1 h2 hd (fun q cA H1 hK hP hD hS => ?_)
  · rw [ji_0, ji_lt ⟨by omega, by omega⟩ jr_0] at q
    omega
  have e := hF.U ty cA (kK_one hK (q := (cA, ty)) (List.mem_append_right _ (List.mem_singleton.mpr rfl))).2
  subst e
  rw [List.append_assoc] at hP hD
  exact kk q ls H1 locs hl hK hP hD hS
theorem k_newref (hF : kOk F Y own cc nl dp) {idx : Nat} (hcl : Cond.classLink own idx RX2 ∈ Tb) {z : Int} {N : Nat} (hz : z = (N : Int)) (hN : N ≤ 100000) (h1 : k + 1 ≤ (fR F).cells) (h2 : n + N ≤ (fR F).slots) (hd : decode cc pc = .ok (.anewarray idx, 3))
    (kk : ∀ q : Nat, kG F Y (T ++ [(kc Y (.object RX2), .object RX2)]) P (L ++ [(q, .inl (kc Y (.object RX2), N, .inr (.inr (.inr (.inr (fun _ => none))))))]) (k + 1) (n + N) (pc + 3) lv (.ref q :: st)) : kG F Y T P L k n pc lv (.int (Int32.ofInt z) :: st) := by
  subst hz
  intro ls H locs hl hK hP hD hS
  refine va_newq hF.x hF.b hF.o (hF.ts _ hcl) hF.O hK hP hD hS hF.A (N' := N) (fun q => ?_) (by rw [ji_clamp (by omega) (by omega)]; omega) (by omega) h1 h2 hd (fun q cA H1 hK hP hD hS => ?_)
  · rw [ji_0, ji_lt ⟨by omega, by omega⟩ jr_0] at q
    omega
  have e := hF.U (.object RX2) cA (kK_one hK (q := (cA, .object RX2)) (List.mem_append_right _ (List.mem_singleton.mpr rfl))).2
  subst e
  rw [List.append_assoc] at hP hD
  exact kk q ls H1 locs hl hK hP hD hS
theorem k_idx {P L : va_W} {j : Nat} {e : Nat × va_E} (h : L[j]? = some e) : (P ++ L)[P.length + j]? = some e := by
  rw [List.getElem?_append_right (Nat.le_add_right _ _), Nat.add_sub_cancel_left]
  exact h
theorem k_set {P L : va_W} {j : Nat} {e : Nat × va_E} : (P ++ L).set (P.length + j) e = P ++ L.set j e := by
  rw [List.set_append_right _ _ (Nat.le_add_right _ _), Nat.add_sub_cancel_left]
theorem k_new (hF : kOk F Y own cc nl dp) {C : String} {T0 : u_T} {N ci idx : Nat} (hc : jC[ci]? = some (C, T0, N)) (ty : Nat → FieldType) (hty : ∀ k, k < N → parseFieldDescriptor (T0 k).2.2.1 = some (ty k)) (hcl : Cond.classLink own idx C ∈ Tb) (hi : Cond.instantiable C N ∈ Tb) (hini : Cond.initialized C ∈ Tb) {fs0 : List Value} (hfs : ∀ j, j < N → defaultValue (ty j) = vp_V fs0 j) (h1 : k + 1 ≤ (fR F).cells) (h2 : n + N ≤ (fR F).slots) (hd : decode cc pc = .ok (.new idx, 3))
    (kk : ∀ q : Nat, kG F Y T P (L ++ [(q, .inr (ci, fs0))]) (k + 1) (n + N) (pc + 3) lv (.ref q :: st)) : kG F Y T P L k n pc lv st := by
  intro ls H locs hl hK hP hD hS
  refine va_new hF.x hF.b hF.ts (jC_in (C, T0, N) (List.mem_of_getElem? hc)) ty hty hF.o (hF.ts _ hcl) (hF.ts _ hi) (hF.ts _ hini) hK hP hD hS hF.A hc hfs h1 h2 hd (fun q H1 hP hD hS => ?_)
  rw [List.append_assoc] at hP hD
  exact kk q ls H1 locs hl hK hP hD hS
theorem k_putF (hF : kOk F Y own cc nl dp) (hin : (ft F).name = "<init>") (j : Nat) {a ci : Nat} {fs0 : List Value} (he : L[j]? = some (a, .inr (ci, fs0))) {T0 : u_T} {N idx : Nat} (hc : jC[ci]? = some (own, T0, N)) (i : Nat) (hi : i < N) (hlink : Cond.fieldLink own idx (T0 i).1 (T0 i).2.1 (T0 i).2.2.1 ∈ Tb) (hfin : (T0 i).2.2.2 = true) (hdecl : (T0 i).1 = own) {ty : FieldType} {v : Value} (hpd : parseFieldDescriptor (T0 i).2.2.1 = some ty) (hn : narrow ty v = v) (hfit : fits ty v = true) (hl2 : i < fs0.length) (hd : decode cc pc = .ok (.putfield idx, 3))
    (kk : kG F Y T P (L.set j (a, .inr (ci, fs0.set i v))) k n (pc + 3) lv st) : kG F Y T P L k n pc lv (v :: .ref a :: st) := by
  obtain ⟨ty0, g1, g2⟩ := jC_ty ci _ hc
  intro ls H locs hl hK hP hD hS
  refine va_putF hF.x hF.b hF.ts (jC_in (own, T0, N) (List.mem_of_getElem? hc)) ty0 g1 g2 hF.o hK hP hD hS (P.length + j) (k_idx he) hc i hi (hF.ts _ hlink) (fun _ h => h) hfin hin hdecl hpd hn hfit hl2 hd (fun H1 locs1 hP hD hS => ?_)
  rw [k_set] at hP hD
  exact kk ls H1 locs1 hl hK hP hD hS
theorem k_put (hF : kOk F Y own cc nl dp) (j : Nat) {a ci : Nat} {fs0 : List Value} (he : L[j]? = some (a, .inr (ci, fs0))) {T0 : u_T} {N idx : Nat} (hc : jC[ci]? = some (own, T0, N)) (i : Nat) (hi : i < N) (hlink : Cond.fieldLink own idx (T0 i).1 (T0 i).2.1 (T0 i).2.2.1 ∈ Tb) (hfin : (T0 i).2.2.2 = false) {ty : FieldType} {v : Value} (hpd : parseFieldDescriptor (T0 i).2.2.1 = some ty) (hn : narrow ty v = v) (hfit : fits ty v = true) (hl2 : i < fs0.length) (hd : decode cc pc = .ok (.putfield idx, 3))
    (kk : kG F Y T P (L.set j (a, .inr (ci, fs0.set i v))) k n (pc + 3) lv st) : kG F Y T P L k n pc lv (v :: .ref a :: st) := by
  obtain ⟨ty0, g1, g2⟩ := jC_ty ci _ hc
  intro ls H locs hl hK hP hD hS
  refine va_put hF.x hF.b hF.ts (jC_in (own, T0, N) (List.mem_of_getElem? hc)) ty0 g1 g2 hF.o hK hP hD hS (P.length + j) (k_idx he) hc i hi (hF.ts _ hlink) (fun _ h => h) hfin hpd hn hfit hl2 hd (fun H1 locs1 hP hD hS => ?_)
  rw [k_set] at hP hD
  exact kk ls H1 locs1 hl hK hP hD hS
theorem k_get (hF : kOk F Y own cc nl dp) (j : Nat) {a ci : Nat} {fs0 : List Value} (he : L[j]? = some (a, .inr (ci, fs0))) {T0 : u_T} {N idx : Nat} (hc : jC[ci]? = some (own, T0, N)) (i : Nat) (hi : i < N) (hlink : Cond.fieldLink own idx (T0 i).1 (T0 i).2.1 (T0 i).2.2.1 ∈ Tb) {v : Value} (hv : fs0[i]? = some v) (hd : decode cc pc = .ok (.getfield idx, 3))
    (kk : kG F Y T P L k n (pc + 3) lv (v :: st)) : kG F Y T P L k n pc lv (.ref a :: st) := by
  intro ls H locs hl hK hP hD hS
  exact va_get hF.x hF.b hF.ts (jC_in (own, T0, N) (List.mem_of_getElem? hc)) hF.o hK hP (P.length + j) (k_idx he) hc i hi (hF.ts _ hlink) (fun _ h => h) hv hd (kk ls H locs hl hK hP hD hS)
theorem k_iast (hF : kOk F Y own cc nl dp) (j t0 : Nat) {a N : Nat} {f : Nat → Int32} (he : L[j]? = some (a, .inl (kc Y .int, N, .inl f))) (ht : T[t0]? = some (kc Y .int, .int)) {z : Int} {x : Int32} (hz : 0 ≤ z ∧ z < N) (hN : N ≤ 100000) (hd : decode cc pc = .ok (.iastore, 1))
    (kk : kG F Y T P (L.set j (a, .inl (kc Y .int, N, .inl (upd f z.toNat x)))) k n (pc + 1) lv st) : kG F Y T P L k n pc lv (.int x :: .int (Int32.ofInt z) :: .ref a :: st) := by
  intro ls H locs hl hK hP hD hS
  refine va_iast hF.x hF.b hK hP hD hS (P.length + j) t0 (k_idx he) ht (ji_in hz.1 hz.2 (by omega)) hd (fun H1 locs1 hP hD hS => ?_)
  rw [k_set, ji_clamp hz.1 (by omega)] at hP hD
  exact kk ls H1 locs1 hl hK hP hD hS
theorem k_aast (hF : kOk F Y own cc nl dp) (j t0 jk : Nat) {a N v : Nat} {vs : List Value} {f : Nat → Option Nat} (he : L[j]? = some (a, .inl (kc Y (.object RX2), N, .inr (.inr (.inr (.inr f)))))) (ht : T[t0]? = some (kc Y (.object RX2), .object RX2)) (hv : L[jk]? = some (v, .inr (2, vs))) {z : Int} (hz : 0 ≤ z ∧ z < N) (hN : N ≤ 100000) (hd : decode cc pc = .ok (.aastore, 1))
    (kk : kG F Y T P (L.set j (a, .inl (kc Y (.object RX2), N, .inr (.inr (.inr (.inr (va_up f z.toNat (some v)))))))) k n (pc + 1) lv st) : kG F Y T P L k n pc lv (.ref v :: .int (Int32.ofInt z) :: .ref a :: st) := by
  intro ls H locs hl hK hP hD hS
  refine va_astq hF.x hF.b hK hP hD hS (P.length + j) t0 (P.length + jk) 2 (r := (RX2, TX2, 2)) (k_idx he) ht (k_idx hv) rfl (ji_in hz.1 hz.2 (by omega)) hd (fun H1 locs1 hP hD hS => ?_)
  rw [k_set, ji_clamp hz.1 (by omega)] at hP hD
  exact kk ls H1 locs1 hl hK hP hD hS
theorem k_obj (hF : kOk F Y own cc nl dp) {idx a : Nat} (hlink : Cond.methodLink own idx Lib.objectInit ∈ Tb) (hinst : Cond.instanceMethod Lib.objectInit ∈ Tb) (hcode : Cond.code Lib.objectInit ⟨#[0xb1]⟩ 1 none ∈ Tb) (hdp : 1 ≤ dp) (hd : decode cc pc = .ok (.invokespecial idx, 3)) (kk : kG F Y T P L k n (pc + 3) lv []) : kG F Y T P L k n pc lv [.ref a] := by
  obtain ⟨R1, R2⟩ := hF.R
  intro ls H locs hl hK hP hD hS
  refine W.objInit hF.x hF.b hF.o (hF.ts _ hlink) (hF.ts _ hinst) (hF.ts _ hcode) rfl hl.1 rfl hd (Nat.le_trans hdp R1) (Nat.le_trans (by show 2 * 0 + 0 + 12 ≤ 200 * dp; omega) R2) ?_
  refine W.eq (g2 := F0 (fm F) (pc + 3) ls []) rfl ?_
  exact kk ls H locs hl hK hP hD hS
/-- the end of a constructor -/
theorem k_ret (hF : kOk F Y own cc nl dp) {T2 : List (ClassId × FieldType)} {Post : va_W → Prop} {mc ms : Nat} (hQ : fQ F = MQ (fb F) (kQ Y T2 Post) (fa F) (fs F) mc ms (kA Y)) (hr : (ft F).sig.returnType = none) (h1 : k ≤ mc) (h2 : n ≤ ms) (hT : ∀ q ∈ T2, q ∈ T) (hd : decode cc pc = .ok (.return_, 1)) (hp : Post (P ++ L)) : kG F Y T P L k n pc lv [] := by
  intro ls H locs hl hK hP hD hS
  rw [hQ]
  refine W.widen h1 h2 ?_
  exact W.vret hF.x hF.b hr (fun t ht hW => ⟨⟨P ++ L, rfl, hp, by rw [ht]; exact hP, hD, (kK_sub hK hT).moved hW.alike⟩, hS.F ht⟩) hS.2.2 hd hF.lk
variable {y : MethodName} {bytes : ByteArray} {maxL idx d mc ms : Nat} {T0 T1 : List (ClassId × FieldType)} {Lc : va_W} {R : va_W → Prop}
theorem krun {H : Heap} {locs : List Loc} {ls : Array Slot} {st0 : List Value} {rest : List Value} {a : Array Value} {P0 : va_W} (hr : va_Run (fp F) (kl Y) (fe F) (fR F) (fs F) (fm F) (fa F) (fb F) (ft F) (fc F) H locs k n mc ms (F0 (fm F) pc ls st0) rest (kQ Y T1 (fun w => ∃ L' : va_W, R L' ∧ w = P0 ++ L') a) (kA Y)) (hl : lv_has ls (fc F).maxLocals lv) (hK : va_K (kD Y) jC T (fs F)) (hS : va_S (kA Y) (fs F).heap H locs)
    (kk : ∀ L' : va_W, R L' → kG F Y (T ++ T1) P0 L' (k + mc) (n + ms) (pc + 3) lv rest) : W (fp F) (kl Y) (fe F) (fR F) (fs F) (fm F) (fa F) (fb F) (ft F) (fc F) H locs k n (fQ F) (F0 (fm F) pc ls st0) := by
  intro U hU Z
  obtain ⟨v, st₀, t, T', L', h0, Y', hL, e1, e2, ⟨⟨w, hv, ⟨L2, hR2, hw⟩, hP', hD', hK'⟩, hz, hk⟩, sg⟩ := hr U hU Z
  cases hv
  rw [h0] at hz hk
  subst hw
  have hK2 : va_K (kD Y) jC T1 (fs F) := va_K.moved (u := t) (U := fs F) (by rw [← e2]; exact Y'.warmed.alike.symm) hK'
  obtain ⟨t2, a1, b1⟩ := kk L2 hR2 ls T'.heap (locs ++ L') hl (hK.app hK2) (by rw [e1]; exact hP') hD'
    ⟨Nat.le_trans hS.1 (by rw [e1]; exact hz), fun q h1 h2 => by rw [e1, hk q (Nat.lt_of_lt_of_le h1 hS.1) h2]; exact hS.2.1 q h1 h2, fun q hq => by
      rcases List.mem_append.mp hq with h | h
      · exact hS.2.2 q h
      · exact hL q h⟩ T' rfl Y'
  exact ⟨t2, sg t2 a1, b1⟩
theorem kpre_at (hF : kOk F Y own cc nl dp) {H : Heap} {locs : List Loc} {w : va_W} (hK : va_K (kD Y) jC T0 (fs F)) (hP : va_P (kD Y) jC w H) (hD : va_D (kA Y) w) (hS : va_S (kA Y) (fs F).heap H locs) {as : List Value} : ∀ U : State, U.heap = H → (fs F).WarmedH U.vm → va_Pc as (kPre Y T0 w) as.toArray U := by
  intro U hU hW
  exact ⟨rfl, fun q hq => hF.A q (Nat.le_trans hS.1 (by rw [← hU]; exact hq)), by rw [hU]; exact hP, hD, hK.moved hW.alike, fun v hv => Tn_warm (List.mem_filter.mp hv).2 hW (hF.N v hv), va_AO.moved hW.alike hF.O, hF.U.moved hW.alike⟩
def jlkI (own : String) (idx : Nat) (y : MethodName) (bytes : ByteArray) (maxL : Nat) : Prop :=
  (y.cls ≠ "java/lang/invoke/MethodHandle" ∧ y.cls ≠ "java/lang/invoke/VarHandle" ∧ (parseMethodDescriptor y.desc).map (fun d => d.parameters.length) = some 0) ∧ y.name = "<init>" ∧ Cond.instanceMethod y ∈ Tb ∧ Cond.initialized y.cls ∈ Tb ∧ Cond.code y bytes maxL none ∈ Tb ∧ maxL ≤ 180 ∧ (Cond.methodLink own idx y ∈ Tb ∨ ∃ host : String, Cond.methodLinkNest own idx y host ∈ Tn)
theorem k_callI (hF : kOk F Y own cc nl dp) {b : Nat} {rest : List Value} (hlk : jlkI own idx y bytes maxL) (i : Nat) (hL : L = L.take i ++ Lc) (hc : KCon Y y bytes maxL d mc ms [.ref b] [] Lc T1 R) (hd : decode cc pc = .ok (.invokespecial idx, 3)) (hdp : d + 1 ≤ dp) (hrest : (rest.map fun v => v.category).sum ≤ 8) (h1 : k + mc ≤ (fR F).cells) (h2 : n + ms ≤ (fR F).slots)
    (kk : ∀ L' : va_W, R L' → kG F Y (T ++ T1) P (L.take i ++ L') (k + mc) (n + ms) (pc + 3) lv rest) : kG F Y T P L k n pc lv (.ref b :: rest) := by
  obtain ⟨hy, hy1, hinst, hini, hcode, hmx, hln⟩ := hlk
  obtain ⟨R1, R2⟩ := hF.R
  intro ls H locs hl hK hP hD hS
  have hP2 : va_P (kD Y) jC ((P ++ L.take i) ++ Lc) H := by rw [List.append_assoc, ← hL]; exact hP
  have hD2 : va_D (kA Y) ((P ++ L.take i) ++ Lc) := by rw [List.append_assoc, ← hL]; exact hD
  have hK0 : va_K (kD Y) jC [] (fs F) := kK_sub hK (fun q h => absurd h List.not_mem_nil)
  have kk2 : ∀ L' : va_W, R L' → kG F Y (T ++ T1) (P ++ L.take i) L' (k + mc) (n + ms) (pc + 3) lv rest := fun L' hR => k_w (List.append_assoc _ _ _) (kk L' hR)
  rcases hln with hln | ⟨host, hln⟩
  · have hcw := cwI (s := fs F) (args := fa F) (R := fR F) (own := own) (index := idx) (y := y) (bytes := bytes) (maxL := maxL) (rm := jrm d mc ms) (ws := .code y bytes maxL none :: Tb) 0 hF.ts (Tb_cons hcode) rfl rfl rfl (hF.ts _ hini) (hF.ts _ hln) (hF.ts _ hinst) hy1 hy ⟨Nat.le_trans hdp R1, Nat.le_trans (show 8 + (maxL + 11) + 200 * d ≤ 200 * dp by omega) R2⟩
    exact krun (va_runI (As := []) (rest := rest) ⟨hF.x, hF.b, rfl, hF.o, hF.ts⟩ (hc (P ++ L.take i)) hcw ⟨kblind, kpre_at hF hK0 hP2 hD2 hS⟩ rfl rfl hl.1 rfl (lv_room hrest) hd ⟨h1, h2⟩) hl hK hS kk2
  · have hcw := va_cnB (s := fs F) (args := fa F) (R := fR F) (own := own) (host := host) (index := idx) (y := y) (bytes := bytes) (maxL := maxL) (ret := none) (rm := jrm d mc ms) (ws := .code y bytes maxL none :: Tb) 0 hF.ts (Tb_cons hcode) rfl rfl rfl (hF.N _ hln) (hF.ts _ hini) hy ⟨Nat.le_trans hdp R1, Nat.le_trans (show 8 + (maxL + 11) + 200 * d ≤ 200 * dp by omega) R2⟩
    exact krun (va_runIN (As := []) (rest := rest) ⟨hF.x, hF.b, rfl, hF.o, hF.ts⟩ (hc (P ++ L.take i)) ⟨hcw, hy1, hF.ts _ hinst⟩ ⟨kblind, kpre_at hF hK0 hP2 hD2 hS⟩ rfl rfl hl.1 rfl (lv_room hrest) hd ⟨h1, h2⟩) hl hK hS kk2
theorem k_callS (hF : kOk F Y own cc nl dp) {as rest : List Value} {nn : Nat} (hlk : jlkS own idx y bytes maxL none nn) (i : Nat) (hL : L = L.take i ++ Lc) (hT : ∀ q ∈ T0, q ∈ T) (hc : KCon Y y bytes maxL d mc ms as T0 Lc T1 R) (hd : decode cc pc = .ok (.invokestatic idx, 3)) (hdp : d + 1 ≤ dp) (hst : st = as.reverse ++ rest) (hn : as.length = nn) (hrest : (rest.map fun v => v.category).sum ≤ 8) (h1 : k + mc ≤ (fR F).cells) (h2 : n + ms ≤ (fR F).slots)
    (kk : ∀ L' : va_W, R L' → kG F Y (T ++ T1) P (L.take i ++ L') (k + mc) (n + ms) (pc + 3) lv rest) : kG F Y T P L k n pc lv st := by
  obtain ⟨hy, hw, hcode, hmx⟩ := hlk
  obtain ⟨R1, R2⟩ := hF.R
  intro ls H locs hl hK hP hD hS
  subst hst
  have hP2 : va_P (kD Y) jC ((P ++ L.take i) ++ Lc) H := by rw [List.append_assoc, ← hL]; exact hP
  have hD2 : va_D (kA Y) ((P ++ L.take i) ++ Lc) := by rw [List.append_assoc, ← hL]; exact hD
  have kk2 : ∀ L' : va_W, R L' → kG F Y (T ++ T1) (P ++ L.take i) L' (k + mc) (n + ms) (pc + 3) lv rest := fun L' hR => k_w (List.append_assoc _ _ _) (kk L' hR)
  have hcw := va_cwS (s := fs F) (args := fa F) (R := fR F) (own := own) (index := idx) (y := y) (bytes := bytes) (maxL := maxL) (ret := none) (rm := jrm d mc ms) (ws := .code y bytes maxL none :: Tb) nn hF.ts (Tb_app (Tb_sub hw) hcode) rfl rfl rfl hy ⟨Nat.le_trans hdp R1, Nat.le_trans (show 8 + (maxL + 11) + 200 * d ≤ 200 * dp by omega) R2⟩
  exact krun (va_runS (As := as) (rest := rest) ⟨hF.x, hF.b, rfl, hF.o, hF.ts⟩ (hc (P ++ L.take i)) hcw ⟨kblind, kpre_at hF (kK_sub hK hT) hP2 hD2 hS⟩ rfl hn hl.1 rfl (lv_room hrest) hd ⟨h1, h2⟩) hl hK hS kk2
end KR

/-! THE JUDGEMENT: at pc, with these locals, this stack and this memory, the method comes to its end -/
def jkN : Cond → Bool
  | .castable .. => true
  | .declares .. => true
  | .fieldLinkNest .. => true
  | .methodLinkNest .. => true
  | _ => false
/-- the words that every method takes: those that the tables keep; and those of four other kinds -/
def Tb : List Cond := lw_tbl.filter goodWord
def Tn : List Cond := lw_tbl.filter jkN
theorem Tb_in {w : Cond} (h : w ∈ lw_tbl) (g : goodWord w = true) : w ∈ Tb := List.mem_filter.mpr ⟨h, g⟩
theorem Tn_in {w : Cond} (h : w ∈ lw_tbl) (g : jkN w = true) : w ∈ Tn := List.mem_filter.mpr ⟨h, g⟩
theorem Tb_good : GoodIn Tb Tb := fun w h => ⟨h, good_of_word (List.mem_filter.mp h).2⟩
theorem Tb_cons {w : Cond} (h : w ∈ Tb) : GoodIn Tb (w :: Tb) := fun v hv => (List.mem_cons.mp hv).elim (fun e => by rw [e]; exact Tb_good w h) (Tb_good v)
theorem Tb_app {ws : List Cond} (h1 : GoodIn Tb ws) {w : Cond} (h : w ∈ Tb) : GoodIn Tb (ws ++ w :: Tb) := fun v hv => (List.mem_append.mp hv).elim (h1 v) (Tb_cons h v)
theorem Tb_sub {ws : List Cond} (h : ∀ w ∈ ws, w ∈ Tb) : GoodIn Tb ws := fun w hw => Tb_good w (h w hw)
theorem Tn_warm {w : Cond} (h : jkN w = true) {s U : State} (hW : s.WarmedH U.vm) (hZ : va_Nw w s) : va_Nw w U := by
  cases w <;> first | exact va_Nw.warmC hW hZ | exact va_Nw.warmD hW hZ | exact va_Nw.warmF hW hZ | exact va_Nw.warmM hW hZ | exact absurd h Bool.false_ne_true
/-- the texts of the class's exceptions; the pairs of exceptions of which none is the other -/
def jStr : List (String × Nat × String) := [(RX4, 255, "no such slot"), (RX4, 260, "a number is out of range"), (RX4, 263, "no such way"), (RX4, 105, "no key has this place"), (RX4, 270, "a value stands for two keys"), (RX4, 265, "it is no key of the map"), (RX4, 190, "the map is not into itself"), (RX4, 274, "the row is full"), (RX4, 219, "no map is kept"), (RX4, 229, "the map has no keys")]
def jNc : List (String × String) := [("java/lang/IllegalArgumentException", "java/lang/IndexOutOfBoundsException"), ("java/util/NoSuchElementException", "java/lang/IndexOutOfBoundsException"), ("java/util/NoSuchElementException", "java/lang/IllegalArgumentException"), ("java/lang/UnsupportedOperationException", "java/lang/IndexOutOfBoundsException"), ("java/lang/IllegalStateException", "java/lang/IllegalArgumentException"), ("java/lang/ArithmeticException", "java/lang/IndexOutOfBoundsException")]
def jZ (X : jX) (U : State) : Prop :=
  (∀ w ∈ Tn, va_Nw w U) ∧ (∀ q ∈ jStr, ∃ a : Nat, vk_R q.1 q.2.1 q.2.2 a U) ∧ (∀ q ∈ jNc, va_Nc q.1 q.2 U) ∧
  vx_Zq Bundle.tN "UNASSIGNED_STACK" Bundle.steD (jA X) U U.heap ∧ vx_Zq Bundle.tN "SUPPRESSED_SENTINEL" Bundle.listD (jA X) U U.heap
theorem jZ.warm {X : jX} {s U : State} (h : jZ X s) (hW : s.WarmedH U.vm) (hk : ∀ q : Nat, q < s.heap.size → ¬ jA X q → U.heap[q]? = s.heap[q]?) : jZ X U := by
  obtain ⟨h1, h2, h3, h4, h5⟩ := h
  refine ⟨fun w hw => Tn_warm (List.mem_filter.mp hw).2 hW (h1 w hw), fun q hq => ?_, fun q hq => (h3 q hq).moved hW.alike, (h4.kept hk).moved hW.alike, (h5.kept hk).moved hW.alike⟩
  obtain ⟨a, ha⟩ := h2 q hq
  exact ⟨a, ha.warm hW⟩
abbrev jF : Type := Program × Env × Room × State × MethodId × Array Value × List Frame × Method × Code × Nat × Nat × (State → Prop)
abbrev fp (F : jF) : Program := F.1
abbrev fe (F : jF) : Env := F.2.1
abbrev fR (F : jF) : Room := F.2.2.1
abbrev fs (F : jF) : State := F.2.2.2.1
abbrev fm (F : jF) : MethodId := F.2.2.2.2.1
abbrev fa (F : jF) : Array Value := F.2.2.2.2.2.1
abbrev fb (F : jF) : List Frame := F.2.2.2.2.2.2.1
abbrev ft (F : jF) : Method := F.2.2.2.2.2.2.2.1
abbrev fc (F : jF) : Code := F.2.2.2.2.2.2.2.2.1
abbrev fk (F : jF) : Nat := F.2.2.2.2.2.2.2.2.2.1
abbrev fn (F : jF) : Nat := F.2.2.2.2.2.2.2.2.2.2.1
abbrev fQ (F : jF) : State → Prop := F.2.2.2.2.2.2.2.2.2.2.2
abbrev jW (F : jF) (X : jX) (H : Heap) (locs : List Loc) (g : JFrame) : Prop := W (fp F) (xl X) (fe F) (fR F) (fs F) (fm F) (fa F) (fb F) (ft F) (fc F) H locs (fk F) (fn F) (fQ F) g
def jlv (X : jX) (lv : List (Nat × jV)) : List (Nat × Value) := lv.map (fun q => (q.1, dn X q.2))
def jG (F : jF) (X : jX) (m : jM) (pc : Nat) (lv : List (Nat × jV)) (st : List jV) : Prop :=
  ∀ (ls : Array Slot) (H : Heap) (locs : List Loc), lv_has ls (fc F).maxLocals (jlv X lv) → va_P (xD X) jC (wl X m) H → va_S (jA X) (fs F).heap H locs → jW F X H locs (F0 (fm F) pc ls (st.map (dn X)))
def jxok (X : jX) : Prop := (∀ i j : Nat, i < 61 → j < 61 → xa X i = xa X j → i = j) ∧ (∀ i : Nat, i < 61 → xb X ≤ xa X i) ∧ (xl X).stackTraces = false
theorem jxD {X : jX} (h : jxok X) (m : jM) : va_D (jA X) (wl X m) := by
  have key : ∀ (i : Nat) (p : Nat × va_E), (wl X m)[i]? = some p → i < 61 ∧ p.1 = xa X i := by
    intro i p hp
    have hi : i < 61 := by
      have := (List.getElem?_eq_some_iff.mp hp).1
      rw [wl_len] at this
      exact this
    rw [wl_get X m hi] at hp
    cases hp
    exact ⟨hi, rfl⟩
  refine ⟨fun i j p q hi hj hpq => ?_, fun i p hi => ?_⟩
  · obtain ⟨h1, e1⟩ := key i p hi
    obtain ⟨h2, e2⟩ := key j q hj
    exact h.1 i j h1 h2 (by rw [← e1, ← e2]; exact hpq)
  · obtain ⟨h1, e1⟩ := key i p hi
    rw [e1]
    exact h.2.1 i h1
/-- what holds inside a method -/
def jOk (F : jF) (X : jX) (own : String) (cc : ByteArray) (nl : Nat) (rt : Option FieldType) (dp : Nat) : Prop :=
  (fp F).tables.exec = Jvm.exec ∧ (fc F).code = cc ∧ (fc F).maxLocals = nl ∧ (fs F).vm.findClass own = some (fm F).cls ∧ (∀ w ∈ Tb, w.before (fa F) (fs F) = true) ∧ va_K (xD X) jC (jT X) (fs F) ∧ jZ X (fs F) ∧ xb X ≤ (fs F).heap.size ∧ (ft F).sig.returnType = rt ∧ (ft F).locks = false ∧ jxok X ∧ dp ≤ (fR F).frames ∧ 200 * dp ≤ (fR F).locals ∧ fk F ≤ (fR F).cells ∧ fn F ≤ (fR F).slots
section JG
variable {F : jF} {X : jX} {m : jM} {pc : Nat} {lv : List (Nat × jV)} {st : List jV} {own : String} {cc : ByteArray} {nl dp : Nat} {rt : Option FieldType}
theorem jOk.x (h : jOk F X own cc nl rt dp) : (fp F).tables.exec = Jvm.exec := h.1
theorem jOk.b (h : jOk F X own cc nl rt dp) : (fc F).code = cc := h.2.1
theorem jOk.ml (h : jOk F X own cc nl rt dp) : (fc F).maxLocals = nl := h.2.2.1
theorem jOk.o (h : jOk F X own cc nl rt dp) : (fs F).vm.findClass own = some (fm F).cls := h.2.2.2.1
theorem jOk.ts (h : jOk F X own cc nl rt dp) : ∀ w ∈ Tb, w.before (fa F) (fs F) = true := h.2.2.2.2.1
theorem jOk.K (h : jOk F X own cc nl rt dp) : va_K (xD X) jC (jT X) (fs F) := h.2.2.2.2.2.1
theorem jOk.Z (h : jOk F X own cc nl rt dp) : jZ X (fs F) := h.2.2.2.2.2.2.1
theorem jOk.base (h : jOk F X own cc nl rt dp) : xb X ≤ (fs F).heap.size := h.2.2.2.2.2.2.2.1
theorem jOk.rr (h : jOk F X own cc nl rt dp) : (ft F).sig.returnType = rt := h.2.2.2.2.2.2.2.2.1
theorem jOk.lk (h : jOk F X own cc nl rt dp) : (ft F).locks = false := h.2.2.2.2.2.2.2.2.2.1
theorem jOk.xk (h : jOk F X own cc nl rt dp) : jxok X := h.2.2.2.2.2.2.2.2.2.2.1
theorem jOk.R (h : jOk F X own cc nl rt dp) : dp ≤ (fR F).frames ∧ 200 * dp ≤ (fR F).locals ∧ fk F ≤ (fR F).cells ∧ fn F ≤ (fR F).slots := h.2.2.2.2.2.2.2.2.2.2.2
/-! the locals -/
def lget : List (Nat × jV) → Nat → Option jV
  | [], _ => none
  | (i, v) :: l, k => if i = k then some v else lget l k
theorem lget_mem : ∀ (l : List (Nat × jV)) (k : Nat) (v : jV), lget l k = some v → (k, v) ∈ l
  | [], _, _, h => by cases h
  | (i, w) :: l, k, v, h => by
    unfold lget at h
    by_cases e : i = k
    · rw [if_pos e] at h
      cases h
      rw [e]
      exact List.mem_cons_self
    · rw [if_neg e] at h
      exact List.mem_cons_of_mem _ (lget_mem l k v h)
def jcat2 : jV → Bool
  | .inr (.inr (.inl _)) => true
  | .inr (.inr (.inr (.inr _))) => true
  | _ => false
theorem jcat_dn (v : jV) : ((dn X v).category = 2) ↔ jcat2 v = true := by
  rcases v with z | r | z | u | u <;> simp [dn, jcat2, Value.category]
def lins (i : Nat) (v : jV) : List (Nat × jV) → List (Nat × jV)
  | [] => [(i, v)]
  | q :: l => if i < q.1 then (i, v) :: q :: l else q :: lins i v l
theorem mem_lins {i : Nat} {v : jV} : ∀ (l : List (Nat × jV)) (q : Nat × jV), q ∈ lins i v l → q = (i, v) ∨ q ∈ l
  | [], q, h => Or.inl (List.mem_singleton.mp h)
  | p :: l, q, h => by
    unfold lins at h
    by_cases e : i < p.1
    · rw [if_pos e] at h
      exact List.mem_cons.mp h
    · rw [if_neg e] at h
      rcases List.mem_cons.mp h with h1 | h1
      · exact Or.inr (by rw [h1]; exact List.mem_cons_self)
      · rcases mem_lins l q h1 with h2 | h2
        · exact Or.inl h2
        · exact Or.inr (List.mem_cons_of_mem _ h2)
def lkeep (i : Nat) (v : jV) : List (Nat × jV) → List (Nat × jV)
  | [] => []
  | q :: l => if q.1 = i then lkeep i v l else if q.1 + 1 = i then (match jcat2 q.2 with | true => lkeep i v l | false => q :: lkeep i v l) else if q.1 = i + 1 then (match jcat2 v with | true => lkeep i v l | false => q :: lkeep i v l) else q :: lkeep i v l
theorem mem_lkeep {i : Nat} {v : jV} : ∀ (l : List (Nat × jV)) (q : Nat × jV), q ∈ lkeep i v l → q ∈ l ∧ q.1 ≠ i ∧ (q.1 + 1 = i → jcat2 q.2 = false) ∧ (jcat2 v = true → q.1 ≠ i + 1)
  | [], q, h => by cases h
  | p :: l, q, h => by
    unfold lkeep at h
    have up : q ∈ lkeep i v l → q ∈ p :: l ∧ q.1 ≠ i ∧ (q.1 + 1 = i → jcat2 q.2 = false) ∧ (jcat2 v = true → q.1 ≠ i + 1) := fun h => by
      obtain ⟨h1, h2⟩ := mem_lkeep l q h
      exact ⟨List.mem_cons_of_mem _ h1, h2⟩
    by_cases e1 : p.1 = i
    · rw [if_pos e1] at h
      exact up h
    rw [if_neg e1] at h
    by_cases e2 : p.1 + 1 = i
    · rw [if_pos e2] at h
      cases hc : jcat2 p.2 with
      | true => rw [hc] at h; exact up h
      | false =>
        rw [hc] at h
        rcases List.mem_cons.mp h with h1 | h1
        · subst h1
          exact ⟨List.mem_cons_self, e1, fun _ => hc, fun _ => by omega⟩
        · exact up h1
    rw [if_neg e2] at h
    by_cases e3 : p.1 = i + 1
    · rw [if_pos e3] at h
      cases hc : jcat2 v with
      | true =>
        rw [hc] at h
        have u := up h
        rw [hc] at u
        exact u
      | false =>
        rw [hc] at h
        rcases List.mem_cons.mp h with h1 | h1
        · subst h1
          exact ⟨List.mem_cons_self, e1, fun z => absurd z e2, fun z => by cases z⟩
        · have u := up h1
          rw [hc] at u
          exact u
    rw [if_neg e3] at h
    rcases List.mem_cons.mp h with h1 | h1
    · subst h1
      exact ⟨List.mem_cons_self, e1, fun z => absurd z e2, fun _ => e3⟩
    · exact up h1
def lset (l : List (Nat × jV)) (i : Nat) (v : jV) : List (Nat × jV) := lins i v (lkeep i v l)
theorem lset_ok1 {ls : Array Slot} {nL i : Nat} {v : jV} (hv : jcat2 v = false) (h : lv_has ls nL ((i, dn X v) :: (jlv X lv).filter (fun q => !(q.1 == i) && !(q.1 + 1 == i && q.2.category == 2)))) : lv_has ls nL (jlv X (lset lv i v)) := by
  refine ⟨h.1, h.2.1, fun q hq => h.2.2 q ?_⟩
  obtain ⟨p, hp, rfl⟩ := List.mem_map.mp hq
  rcases mem_lins _ p hp with h1 | h1
  · subst h1; exact List.mem_cons_self
  · obtain ⟨a1, a2, a3, a4⟩ := mem_lkeep _ p h1
    refine List.mem_cons_of_mem _ (List.mem_filter.mpr ⟨List.mem_map.mpr ⟨p, a1, rfl⟩, ?_⟩)
    have b1 : (p.1 == i) = false := by simpa using a2
    have b2 : (p.1 + 1 == i && (dn X p.2).category == 2) = false := by
      by_cases e : p.1 + 1 = i
      · have := a3 e
        have c : ¬ (dn X p.2).category = 2 := fun z => by rw [(jcat_dn p.2).mp z] at this; cases this
        simp [c]
      · simp [e]
    show (!(p.1 == i) && !(p.1 + 1 == i && (dn X p.2).category == 2)) = true
    rw [b1, b2]; rfl
theorem lset_ok2 {ls : Array Slot} {nL i : Nat} {v : jV} (hv : jcat2 v = true) (h : lv_has ls nL ((i, dn X v) :: (jlv X lv).filter (fun q => !(q.1 == i) && (!(q.1 == i + 1) && !(q.1 + 1 == i && q.2.category == 2))))) : lv_has ls nL (jlv X (lset lv i v)) := by
  refine ⟨h.1, h.2.1, fun q hq => h.2.2 q ?_⟩
  obtain ⟨p, hp, rfl⟩ := List.mem_map.mp hq
  rcases mem_lins _ p hp with h1 | h1
  · subst h1; exact List.mem_cons_self
  · obtain ⟨a1, a2, a3, a4⟩ := mem_lkeep _ p h1
    refine List.mem_cons_of_mem _ (List.mem_filter.mpr ⟨List.mem_map.mpr ⟨p, a1, rfl⟩, ?_⟩)
    have b1 : (p.1 == i) = false := by simpa using a2
    have b3 : (p.1 == i + 1) = false := by simpa using a4 hv
    have b2 : (p.1 + 1 == i && (dn X p.2).category == 2) = false := by
      by_cases e : p.1 + 1 = i
      · have := a3 e
        have c : ¬ (dn X p.2).category = 2 := fun z => by rw [(jcat_dn p.2).mp z] at this; cases this
        simp [c]
      · simp [e]
    show (!(p.1 == i) && (!(p.1 == i + 1) && !(p.1 + 1 == i && (dn X p.2).category == 2))) = true
    rw [b1, b2, b3]; rfl
theorem jl_at {ls : Array Slot} {nL i : Nat} {v : jV} (h : lv_has ls nL (jlv X lv)) (hg : lget lv i = some v) : ls[i]? = some (.val (dn X v)) := h.2.2 (i, dn X v) (List.mem_map.mpr ⟨(i, v), lget_mem lv i v hg, rfl⟩)
/-! the rows -/
theorem g_iconst (hF : jOk F X own cc nl rt dp) {n : Int} (hd : decode cc pc = .ok (.iconst n, 1)) (k : jG F X m (pc + 1) lv (vI n :: st)) : jG F X m pc lv (st) := by
  intro ls H locs hl hP hS
  exact lv_iconst hF.x hF.b hd rfl (k ls H locs hl hP hS)
theorem g_bipush (hF : jOk F X own cc nl rt dp) {n : Int} (hd : decode cc pc = .ok (.bipush n, 2)) (h1 : -128 ≤ n ∧ n ≤ 127) (k : jG F X m (pc + 2) lv (vI n :: st)) : jG F X m pc lv (st) := by
  intro ls H locs hl hP hS
  exact lv_bipush hF.x hF.b hd (ji_bip h1.1 h1.2) (k ls H locs hl hP hS)
theorem g_sipush (hF : jOk F X own cc nl rt dp) {n : Int} (hd : decode cc pc = .ok (.sipush n, 3)) (h1 : -32768 ≤ n ∧ n ≤ 32767) (k : jG F X m (pc + 3) lv (vI n :: st)) : jG F X m pc lv (st) := by
  intro ls H locs hl hP hS
  exact lv_sipush hF.x hF.b hd (ji_sip h1.1 h1.2) (k ls H locs hl hP hS)
theorem g_lconst (hF : jOk F X own cc nl rt dp) {n : Fin 2} {z : Int} (hd : decode cc pc = .ok (.lconst n, 1)) (hz : ((n : Nat) : Int) = z) (k : jG F X m (pc + 1) lv (vL z :: st)) : jG F X m pc lv (st) := by
  intro ls H locs hl hP hS
  subst hz
  exact lv_lconst hF.x hF.b hd (Int64.ofInt_eq_ofNat).symm (k ls H locs hl hP hS)
theorem g_ldc2 (hF : jOk F X own cc nl rt dp) {i : Nat} {z : Int} (hc : Cond.constantLong own i (Int64.ofInt z) ∈ Tb) (hd : decode cc pc = .ok (.ldc2_w i, 3)) (k : jG F X m (pc + 3) lv (vL z :: st)) : jG F X m pc lv (st) := by
  intro ls H locs hl hP hS
  exact lv_ldc2 hF.x hF.b hF.o (hF.ts _ hc) hd (k ls H locs hl hP hS)
theorem g_ldc (hF : jOk F X own cc nl rt dp) {i : Nat} {z : Int} (hc : Cond.constant own i (Int32.ofInt z) ∈ Tb) (hd : decode cc pc = .ok (.ldc i, 2)) (k : jG F X m (pc + 2) lv (vI z :: st)) : jG F X m pc lv (st) := by
  intro ls H locs hl hP hS
  exact lv_ldc hF.x hF.b hF.o (hF.ts _ hc) hd (k ls H locs hl hP hS)
theorem g_iload_n (hF : jOk F X own cc nl rt dp) {k0 : Fin 4} {z : Int} (hd : decode cc pc = .ok (.iload_n k0, 1)) (hg : lget lv (k0 : Nat) = some (vI z)) (k : jG F X m (pc + 1) lv ((vI z) :: st)) : jG F X m pc lv (st) := by
  intro ls H locs hl hP hS
  exact lv_iload_n hF.x hF.b hd rfl (jl_at hl hg) (k ls H locs hl hP hS)
theorem g_iload (hF : jOk F X own cc nl rt dp) {i : Nat} {z : Int} (hd : decode cc pc = .ok (.iload i, 2)) (hg : lget lv i = some (vI z)) (k : jG F X m (pc + 2) lv ((vI z) :: st)) : jG F X m pc lv (st) := by
  intro ls H locs hl hP hS
  exact lv_iload hF.x hF.b hd (jl_at hl hg) (k ls H locs hl hP hS)
theorem g_aload_n (hF : jOk F X own cc nl rt dp) {k0 : Fin 4} {z : Nat × Nat} (hd : decode cc pc = .ok (.aload_n k0, 1)) (hg : lget lv (k0 : Nat) = some (.inr (.inl z))) (k : jG F X m (pc + 1) lv ((.inr (.inl z)) :: st)) : jG F X m pc lv (st) := by
  intro ls H locs hl hP hS
  exact lv_aload_n hF.x hF.b hd rfl (jl_at hl hg) (k ls H locs hl hP hS)
theorem g_aload (hF : jOk F X own cc nl rt dp) {i : Nat} {z : Nat × Nat} (hd : decode cc pc = .ok (.aload i, 2)) (hg : lget lv i = some (.inr (.inl z))) (k : jG F X m (pc + 2) lv ((.inr (.inl z)) :: st)) : jG F X m pc lv (st) := by
  intro ls H locs hl hP hS
  exact lv_aload hF.x hF.b hd (jl_at hl hg) (k ls H locs hl hP hS)
theorem g_lload_n (hF : jOk F X own cc nl rt dp) {k0 : Fin 4} {z : Int} (hd : decode cc pc = .ok (.lload_n k0, 1)) (hg : lget lv (k0 : Nat) = some (vL z)) (k : jG F X m (pc + 1) lv ((vL z) :: st)) : jG F X m pc lv (st) := by
  intro ls H locs hl hP hS
  exact lv_lload_n hF.x hF.b hd rfl (jl_at hl hg) (k ls H locs hl hP hS)
theorem g_lload (hF : jOk F X own cc nl rt dp) {i : Nat} {z : Int} (hd : decode cc pc = .ok (.lload i, 2)) (hg : lget lv i = some (vL z)) (k : jG F X m (pc + 2) lv ((vL z) :: st)) : jG F X m pc lv (st) := by
  intro ls H locs hl hP hS
  exact lv_lload hF.x hF.b hd (jl_at hl hg) (k ls H locs hl hP hS)
theorem g_istore_n (hF : jOk F X own cc nl rt dp) {k0 : Fin 4} {z : Int} (hd : decode cc pc = .ok (.istore_n k0, 1)) (hn : (k0 : Nat) < nl) (k : jG F X m (pc + 1) (lset lv (k0 : Nat) (vI z)) st) : jG F X m pc lv ((vI z) :: st) := by
  intro ls H locs hl hP hS
  exact lv_istore_n hF.x hF.b hd rfl hl (by rw [hF.ml]; exact hn) rfl (fun ls2 hl2 => k ls2 H locs (lset_ok1 (v := vI z) rfl hl2) hP hS)
theorem g_istore (hF : jOk F X own cc nl rt dp) {i : Nat} {z : Int} (hd : decode cc pc = .ok (.istore i, 2)) (hn : i < nl) (k : jG F X m (pc + 2) (lset lv i (vI z)) st) : jG F X m pc lv ((vI z) :: st) := by
  intro ls H locs hl hP hS
  exact lv_istore hF.x hF.b hd hl (by rw [hF.ml]; exact hn) rfl (fun ls2 hl2 => k ls2 H locs (lset_ok1 (v := vI z) rfl hl2) hP hS)
theorem g_astore_n (hF : jOk F X own cc nl rt dp) {k0 : Fin 4} {z : Nat × Nat} (hd : decode cc pc = .ok (.astore_n k0, 1)) (hn : (k0 : Nat) < nl) (k : jG F X m (pc + 1) (lset lv (k0 : Nat) (.inr (.inl z))) st) : jG F X m pc lv ((.inr (.inl z)) :: st) := by
  intro ls H locs hl hP hS
  exact lv_astore_n hF.x hF.b hd rfl hl (by rw [hF.ml]; exact hn) rfl (fun ls2 hl2 => k ls2 H locs (lset_ok1 (v := .inr (.inl z)) rfl hl2) hP hS)
theorem g_astore (hF : jOk F X own cc nl rt dp) {i : Nat} {z : Nat × Nat} (hd : decode cc pc = .ok (.astore i, 2)) (hn : i < nl) (k : jG F X m (pc + 2) (lset lv i (.inr (.inl z))) st) : jG F X m pc lv ((.inr (.inl z)) :: st) := by
  intro ls H locs hl hP hS
  exact lv_astore hF.x hF.b hd hl (by rw [hF.ml]; exact hn) rfl (fun ls2 hl2 => k ls2 H locs (lset_ok1 (v := .inr (.inl z)) rfl hl2) hP hS)
theorem g_lstore_n (hF : jOk F X own cc nl rt dp) {k0 : Fin 4} {z : Int} (hd : decode cc pc = .ok (.lstore_n k0, 1)) (hn : (k0 : Nat) + 1 < nl) (k : jG F X m (pc + 1) (lset lv (k0 : Nat) (vL z)) st) : jG F X m pc lv ((vL z) :: st) := by
  intro ls H locs hl hP hS
  exact lv_lstore_n hF.x hF.b hd rfl hl (by rw [hF.ml]; exact hn) rfl (fun ls2 hl2 => k ls2 H locs (lset_ok2 (v := vL z) rfl hl2) hP hS)
theorem g_lstore (hF : jOk F X own cc nl rt dp) {i : Nat} {z : Int} (hd : decode cc pc = .ok (.lstore i, 2)) (hn : i + 1 < nl) (k : jG F X m (pc + 2) (lset lv i (vL z)) st) : jG F X m pc lv ((vL z) :: st) := by
  intro ls H locs hl hP hS
  exact lv_lstore hF.x hF.b hd hl (by rw [hF.ml]; exact hn) rfl (fun ls2 hl2 => k ls2 H locs (lset_ok2 (v := vL z) rfl hl2) hP hS)
theorem jl_place {l : List (Nat × jV)} {i : Nat} {v : jV} (h : lget l i = some v) : ∃ k : Nat, (jlv X l)[k]? = some (i, dn X v) := List.getElem?_of_mem (List.mem_map.mpr ⟨(i, v), lget_mem l i v h, rfl⟩)
theorem g_iinc (hF : jOk F X own cc nl rt dp) {i : Nat} {n z : Int} (hd : decode cc pc = .ok (.iinc i n, 3)) (hg : lget lv i = some (vI z)) (hn : i < nl) (k : jG F X m (pc + 3) (lset lv i (vI (z + n))) st) : jG F X m pc lv (st) := by
  intro ls H locs hl hP hS
  obtain ⟨q, hq⟩ := jl_place (X := X) hg
  exact lv_iinc hF.x hF.b hd hl hq (Int32.ofInt_add z n).symm (by rw [hF.ml]; exact hn) rfl (fun ls2 hl2 => k ls2 H locs (lset_ok1 (v := vI (z + n)) rfl hl2) hP hS)
theorem g_dup (hF : jOk F X own cc nl rt dp) {v : jV} (hd : decode cc pc = .ok (.dup, 1)) (hc : jcat2 v = false) (k : jG F X m (pc + 1) lv (v :: v :: st)) : jG F X m pc lv (v :: st) := by
  intro ls H locs hl hP hS
  exact lv_dup hF.x hF.b hd (by rcases v with z | r | z | u | u <;> first | rfl | cases hc) (k ls H locs hl hP hS)
theorem g_iadd (hF : jOk F X own cc nl rt dp) {a b : Int} (hd : decode cc pc = .ok (.iadd, 1)) (k : jG F X m (pc + 1) lv (vI (a + b) :: st)) : jG F X m pc lv (vI b :: vI a :: st) := by
  intro ls H locs hl hP hS
  refine lv_iadd hF.x hF.b hd ?_
  have k2 := k ls H locs hl hP hS
  rw [List.map_cons, show dn X (vI (a + b)) = .int (Int32.ofInt (a + b)) from rfl, Int32.ofInt_add] at k2
  exact k2
theorem g_isub (hF : jOk F X own cc nl rt dp) {a b : Int} (hd : decode cc pc = .ok (.isub, 1)) (k : jG F X m (pc + 1) lv (vI (a - b) :: st)) : jG F X m pc lv (vI b :: vI a :: st) := by
  intro ls H locs hl hP hS
  refine lv_isub hF.x hF.b hd ?_
  have k2 := k ls H locs hl hP hS
  rw [List.map_cons, show dn X (vI (a - b)) = .int (Int32.ofInt (a - b)) from rfl, Int32.ofInt_sub] at k2
  exact k2
theorem g_imul (hF : jOk F X own cc nl rt dp) {a b : Int} (hd : decode cc pc = .ok (.imul, 1)) (k : jG F X m (pc + 1) lv (vI (a * b) :: st)) : jG F X m pc lv (vI b :: vI a :: st) := by
  intro ls H locs hl hP hS
  refine lv_imul hF.x hF.b hd ?_
  have k2 := k ls H locs hl hP hS
  rw [List.map_cons, show dn X (vI (a * b)) = .int (Int32.ofInt (a * b)) from rfl, Int32.ofInt_mul] at k2
  exact k2
theorem g_ladd (hF : jOk F X own cc nl rt dp) {a b : Int} (hd : decode cc pc = .ok (.ladd, 1)) (k : jG F X m (pc + 1) lv (vL (a + b) :: st)) : jG F X m pc lv (vL b :: vL a :: st) := by
  intro ls H locs hl hP hS
  refine lv_ladd hF.x hF.b hd ?_
  have k2 := k ls H locs hl hP hS
  rw [List.map_cons, show dn X (vL (a + b)) = .long (Int64.ofInt (a + b)) from rfl, Int64.ofInt_add] at k2
  exact k2
theorem g_lmul (hF : jOk F X own cc nl rt dp) {a b : Int} (hd : decode cc pc = .ok (.lmul, 1)) (k : jG F X m (pc + 1) lv (vL (a * b) :: st)) : jG F X m pc lv (vL b :: vL a :: st) := by
  intro ls H locs hl hP hS
  refine lv_lmul hF.x hF.b hd ?_
  have k2 := k ls H locs hl hP hS
  rw [List.map_cons, show dn X (vL (a * b)) = .long (Int64.ofInt (a * b)) from rfl, Int64.ofInt_mul] at k2
  exact k2
theorem g_ixor (hF : jOk F X own cc nl rt dp) {a b : Int} (hd : decode cc pc = .ok (.ixor, 1)) (k : jG F X m (pc + 1) lv (vI (jxor a b) :: st)) : jG F X m pc lv (vI b :: vI a :: st) := by
  intro ls H locs hl hP hS
  refine lv_ixor hF.x hF.b hd ?_
  have k2 := k ls H locs hl hP hS
  rw [List.map_cons, show dn X (vI (jxor a b)) = .int (Int32.ofInt (jxor a b)) from rfl, jxor, Int32.ofInt_toInt] at k2
  exact k2
theorem g_iand (hF : jOk F X own cc nl rt dp) {a b : Int} (hd : decode cc pc = .ok (.iand, 1)) (k : jG F X m (pc + 1) lv (vI (jand a b) :: st)) : jG F X m pc lv (vI b :: vI a :: st) := by
  intro ls H locs hl hP hS
  refine lv_iand hF.x hF.b hd ?_
  have k2 := k ls H locs hl hP hS
  rw [List.map_cons, show dn X (vI (jand a b)) = .int (Int32.ofInt (jand a b)) from rfl, jand, Int32.ofInt_toInt] at k2
  exact k2
theorem g_ior (hF : jOk F X own cc nl rt dp) {a b : Int} (hd : decode cc pc = .ok (.ior, 1)) (k : jG F X m (pc + 1) lv (vI (jor a b) :: st)) : jG F X m pc lv (vI b :: vI a :: st) := by
  intro ls H locs hl hP hS
  refine lv_ior hF.x hF.b hd ?_
  have k2 := k ls H locs hl hP hS
  rw [List.map_cons, show dn X (vI (jor a b)) = .int (Int32.ofInt (jor a b)) from rfl, jor, Int32.ofInt_toInt] at k2
  exact k2
theorem g_ishr (hF : jOk F X own cc nl rt dp) {a b : Int} (hd : decode cc pc = .ok (.ishr, 1)) (k : jG F X m (pc + 1) lv (vI (jshr a b) :: st)) : jG F X m pc lv (vI b :: vI a :: st) := by
  intro ls H locs hl hP hS
  refine lv_ishr hF.x hF.b hd ?_
  have k2 := k ls H locs hl hP hS
  rw [List.map_cons, show dn X (vI (jshr a b)) = .int (Int32.ofInt (jshr a b)) from rfl, jshr, Int32.ofInt_toInt] at k2
  exact k2
theorem g_irem (hF : jOk F X own cc nl rt dp) {a b : Int} (hd : decode cc pc = .ok (.irem, 1)) (ha : jr a) (hb : 0 < b ∧ b < 2147483648) (k : jG F X m (pc + 1) lv (vI (a.tmod b) :: st)) : jG F X m pc lv (vI b :: vI a :: st) := by
  intro ls H locs hl hP hS
  refine lv_irem hF.x hF.b hd (fun z => ?_) ?_
  · rw [ji_0, ji_eq ⟨by omega, hb.2⟩ jr_0] at z; omega
  have k2 := k ls H locs hl hP hS
  rw [List.map_cons, show dn X (vI (a.tmod b)) = .int (Int32.ofInt (a.tmod b)) from rfl, ← ji_rem ha hb.1 hb.2] at k2
  exact k2
theorem g_lrem (hF : jOk F X own cc nl rt dp) {a b : Int} (hd : decode cc pc = .ok (.lrem, 1)) (ha : jrl a) (hb : 0 < b ∧ b < 9223372036854775808) (k : jG F X m (pc + 1) lv (vL (a.tmod b) :: st)) : jG F X m pc lv (vL b :: vL a :: st) := by
  intro ls H locs hl hP hS
  refine lv_lrem hF.x hF.b hd (fun z => ?_) ?_
  · rw [jl_0, jl_eq ⟨by omega, hb.2⟩ jrl_0] at z; omega
  have k2 := k ls H locs hl hP hS
  rw [List.map_cons, show dn X (vL (a.tmod b)) = .long (Int64.ofInt (a.tmod b)) from rfl, ← jl_rem ha hb.1 hb.2] at k2
  exact k2
theorem g_ldiv (hF : jOk F X own cc nl rt dp) {a b : Int} (hd : decode cc pc = .ok (.ldiv, 1)) (ha : jrl a) (hb : 0 < b ∧ b < 9223372036854775808) (k : jG F X m (pc + 1) lv (vL (a.tdiv b) :: st)) : jG F X m pc lv (vL b :: vL a :: st) := by
  intro ls H locs hl hP hS
  refine lv_ldiv hF.x hF.b hd (fun z => ?_) ?_
  · rw [jl_0, jl_eq ⟨by omega, hb.2⟩ jrl_0] at z; omega
  have k2 := k ls H locs hl hP hS
  rw [List.map_cons, show dn X (vL (a.tdiv b)) = .long (Int64.ofInt (a.tdiv b)) from rfl, ← jl_div ha hb.1 hb.2] at k2
  exact k2
theorem jcmp_eq {a b : Int} (ha : jrl a) (hb : jrl b) : lg_cmp (Int64.ofInt a) (Int64.ofInt b) = Int32.ofInt (jcmp a b) := by
  unfold lg_cmp jcmp
  by_cases h1 : a < b
  · rw [if_pos h1, if_neg (fun z => by have := (jl_lt hb ha).mp z; omega), if_neg (fun z => by have := (jl_eq ha hb).mp z; omega)]
    rfl
  · rw [if_neg h1]
    by_cases h2 : a = b
    · subst h2
      rw [if_pos rfl, if_neg (fun z => h1 ((jl_lt ha ha).mp z)), if_pos rfl]
      rfl
    · rw [if_neg h2, if_pos ((jl_lt hb ha).mpr (by omega))]
      rfl
theorem g_lcmp (hF : jOk F X own cc nl rt dp) {a b : Int} (hd : decode cc pc = .ok (.lcmp, 1)) (ha : jrl a) (hb : jrl b) (k : jG F X m (pc + 1) lv (vI (jcmp a b) :: st)) : jG F X m pc lv (vL b :: vL a :: st) := by
  intro ls H locs hl hP hS
  refine W.lcmp hF.x hF.b hd ?_
  rw [jcmp_eq ha hb]
  exact k ls H locs hl hP hS
theorem g_i2l (hF : jOk F X own cc nl rt dp) {a : Int} (hd : decode cc pc = .ok (.i2l, 1)) (ha : jr a) (k : jG F X m (pc + 1) lv (vL a :: st)) : jG F X m pc lv (vI a :: st) := by
  intro ls H locs hl hP hS
  exact lv_i2l hF.x hF.b hd (ji_long ha) (k ls H locs hl hP hS)
theorem g_l2i (hF : jOk F X own cc nl rt dp) {a : Int} (hd : decode cc pc = .ok (.l2i, 1)) (k : jG F X m (pc + 1) lv (vI a :: st)) : jG F X m pc lv (vL a :: st) := by
  intro ls H locs hl hP hS
  exact lv_l2i hF.x hF.b hd Int64.toInt32_ofInt (k ls H locs hl hP hS)
theorem g_goto (hF : jOk F X own cc nl rt dp) {off : Int} {tgt : Nat} (hd : decode cc pc = .ok (.goto off, 3)) (ht : (pc : Int) + off = (tgt : Int)) (k : jG F X m tgt lv st) : jG F X m pc lv (st) := by
  intro ls H locs hl hP hS
  exact lv_goto hF.x hF.b hd ht (k ls H locs hl hP hS)
theorem g_icmp_eq (hF : jOk F X own cc nl rt dp) {a b off : Int} {tgt : Nat} (hd : decode cc pc = .ok (.if_icmp .eq off, 3)) (ht : (pc : Int) + off = (tgt : Int)) (ha : jr a) (hb : jr b) (kt : a = b → jG F X m tgt lv st) (kf : ¬ a = b → jG F X m (pc + 3) lv st) : jG F X m pc lv (vI b :: vI a :: st) := by
  intro ls H locs hl hP hS
  exact lv_icmp_eq hF.x hF.b hd ht (fun h => kt ((ji_eq ha hb).mp h) ls H locs hl hP hS) (fun h => kf (fun q => h ((ji_eq ha hb).mpr q)) ls H locs hl hP hS)
theorem g_icmp_ne (hF : jOk F X own cc nl rt dp) {a b off : Int} {tgt : Nat} (hd : decode cc pc = .ok (.if_icmp .ne off, 3)) (ht : (pc : Int) + off = (tgt : Int)) (ha : jr a) (hb : jr b) (kt : ¬ a = b → jG F X m tgt lv st) (kf : a = b → jG F X m (pc + 3) lv st) : jG F X m pc lv (vI b :: vI a :: st) := by
  intro ls H locs hl hP hS
  exact lv_icmp_ne hF.x hF.b hd ht (fun h => kt (fun q => h ((ji_eq ha hb).mpr q)) ls H locs hl hP hS) (fun h => kf ((ji_eq ha hb).mp h) ls H locs hl hP hS)
theorem g_icmp_lt (hF : jOk F X own cc nl rt dp) {a b off : Int} {tgt : Nat} (hd : decode cc pc = .ok (.if_icmp .lt off, 3)) (ht : (pc : Int) + off = (tgt : Int)) (ha : jr a) (hb : jr b) (kt : a < b → jG F X m tgt lv st) (kf : ¬ a < b → jG F X m (pc + 3) lv st) : jG F X m pc lv (vI b :: vI a :: st) := by
  intro ls H locs hl hP hS
  exact lv_icmp_lt hF.x hF.b hd ht (fun h => kt ((ji_lt ha hb).mp h) ls H locs hl hP hS) (fun h => kf (fun q => h ((ji_lt ha hb).mpr q)) ls H locs hl hP hS)
theorem g_icmp_gt (hF : jOk F X own cc nl rt dp) {a b off : Int} {tgt : Nat} (hd : decode cc pc = .ok (.if_icmp .gt off, 3)) (ht : (pc : Int) + off = (tgt : Int)) (ha : jr a) (hb : jr b) (kt : b < a → jG F X m tgt lv st) (kf : ¬ b < a → jG F X m (pc + 3) lv st) : jG F X m pc lv (vI b :: vI a :: st) := by
  intro ls H locs hl hP hS
  exact lv_icmp_gt hF.x hF.b hd ht (fun h => kt ((ji_lt hb ha).mp h) ls H locs hl hP hS) (fun h => kf (fun q => h ((ji_lt hb ha).mpr q)) ls H locs hl hP hS)
theorem g_icmp_le (hF : jOk F X own cc nl rt dp) {a b off : Int} {tgt : Nat} (hd : decode cc pc = .ok (.if_icmp .le off, 3)) (ht : (pc : Int) + off = (tgt : Int)) (ha : jr a) (hb : jr b) (kt : a ≤ b → jG F X m tgt lv st) (kf : ¬ a ≤ b → jG F X m (pc + 3) lv st) : jG F X m pc lv (vI b :: vI a :: st) := by
  intro ls H locs hl hP hS
  exact lv_icmp_le hF.x hF.b hd ht (fun h => kt ((ji_le ha hb).mp h) ls H locs hl hP hS) (fun h => kf (fun q => h ((ji_le ha hb).mpr q)) ls H locs hl hP hS)
theorem g_icmp_ge (hF : jOk F X own cc nl rt dp) {a b off : Int} {tgt : Nat} (hd : decode cc pc = .ok (.if_icmp .ge off, 3)) (ht : (pc : Int) + off = (tgt : Int)) (ha : jr a) (hb : jr b) (kt : b ≤ a → jG F X m tgt lv st) (kf : ¬ b ≤ a → jG F X m (pc + 3) lv st) : jG F X m pc lv (vI b :: vI a :: st) := by
  intro ls H locs hl hP hS
  exact lv_icmp_ge hF.x hF.b hd ht (fun h => kt ((ji_le hb ha).mp h) ls H locs hl hP hS) (fun h => kf (fun q => h ((ji_le hb ha).mpr q)) ls H locs hl hP hS)
theorem g_if_eq (hF : jOk F X own cc nl rt dp) {a off : Int} {tgt : Nat} (hd : decode cc pc = .ok (.ifCond .eq off, 3)) (ht : (pc : Int) + off = (tgt : Int)) (ha : jr a) (kt : a = 0 → jG F X m tgt lv st) (kf : ¬ a = 0 → jG F X m (pc + 3) lv st) : jG F X m pc lv (vI a :: st) := by
  intro ls H locs hl hP hS
  exact lv_if_eq hF.x hF.b hd ht (fun h => kt ((ji_eq ha jr_0).mp h) ls H locs hl hP hS) (fun h => kf (fun q => h ((ji_eq ha jr_0).mpr q)) ls H locs hl hP hS)
theorem g_if_ne (hF : jOk F X own cc nl rt dp) {a off : Int} {tgt : Nat} (hd : decode cc pc = .ok (.ifCond .ne off, 3)) (ht : (pc : Int) + off = (tgt : Int)) (ha : jr a) (kt : ¬ a = 0 → jG F X m tgt lv st) (kf : a = 0 → jG F X m (pc + 3) lv st) : jG F X m pc lv (vI a :: st) := by
  intro ls H locs hl hP hS
  exact lv_if_ne hF.x hF.b hd ht (fun h => kt (fun q => h ((ji_eq ha jr_0).mpr q)) ls H locs hl hP hS) (fun h => kf ((ji_eq ha jr_0).mp h) ls H locs hl hP hS)
theorem g_if_lt (hF : jOk F X own cc nl rt dp) {a off : Int} {tgt : Nat} (hd : decode cc pc = .ok (.ifCond .lt off, 3)) (ht : (pc : Int) + off = (tgt : Int)) (ha : jr a) (kt : a < 0 → jG F X m tgt lv st) (kf : ¬ a < 0 → jG F X m (pc + 3) lv st) : jG F X m pc lv (vI a :: st) := by
  intro ls H locs hl hP hS
  exact lv_if_lt hF.x hF.b hd ht (fun h => kt ((ji_lt ha jr_0).mp h) ls H locs hl hP hS) (fun h => kf (fun q => h ((ji_lt ha jr_0).mpr q)) ls H locs hl hP hS)
theorem g_if_gt (hF : jOk F X own cc nl rt dp) {a off : Int} {tgt : Nat} (hd : decode cc pc = .ok (.ifCond .gt off, 3)) (ht : (pc : Int) + off = (tgt : Int)) (ha : jr a) (kt : 0 < a → jG F X m tgt lv st) (kf : ¬ 0 < a → jG F X m (pc + 3) lv st) : jG F X m pc lv (vI a :: st) := by
  intro ls H locs hl hP hS
  exact lv_if_gt hF.x hF.b hd ht (fun h => kt ((ji_lt jr_0 ha).mp h) ls H locs hl hP hS) (fun h => kf (fun q => h ((ji_lt jr_0 ha).mpr q)) ls H locs hl hP hS)
theorem g_if_le (hF : jOk F X own cc nl rt dp) {a off : Int} {tgt : Nat} (hd : decode cc pc = .ok (.ifCond .le off, 3)) (ht : (pc : Int) + off = (tgt : Int)) (ha : jr a) (kt : a ≤ 0 → jG F X m tgt lv st) (kf : ¬ a ≤ 0 → jG F X m (pc + 3) lv st) : jG F X m pc lv (vI a :: st) := by
  intro ls H locs hl hP hS
  exact lv_if_le hF.x hF.b hd ht (fun h => kt ((ji_le ha jr_0).mp h) ls H locs hl hP hS) (fun h => kf (fun q => h ((ji_le ha jr_0).mpr q)) ls H locs hl hP hS)
theorem g_if_ge (hF : jOk F X own cc nl rt dp) {a off : Int} {tgt : Nat} (hd : decode cc pc = .ok (.ifCond .ge off, 3)) (ht : (pc : Int) + off = (tgt : Int)) (ha : jr a) (kt : 0 ≤ a → jG F X m tgt lv st) (kf : ¬ 0 ≤ a → jG F X m (pc + 3) lv st) : jG F X m pc lv (vI a :: st) := by
  intro ls H locs hl hP hS
  exact lv_if_ge hF.x hF.b hd ht (fun h => kt ((ji_le jr_0 ha).mp h) ls H locs hl hP hS) (fun h => kf (fun q => h ((ji_le jr_0 ha).mpr q)) ls H locs hl hP hS)
end JG

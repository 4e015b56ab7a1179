/-! A THROW; MATH; COPYING; MEMORIES THAT TELL THE SAME -/
def mlen (j : Nat) : Nat := if 19 ≤ j ∧ j < 38 then 1 else if j = 38 then 0 else if j = 39 then 0 else if j = 40 then 1 else if j = 43 then 257 else if j = 45 then 2 else if j = 46 then 0 else if j = 48 then 3 else if j = 51 then 4 else if j = 59 then 1 else if j = 60 then 1 else aln j
def jeqv (m m' : jM) : Prop := ∀ j : Nat, j < 61 → ∀ z : Int, 0 ≤ z → z < mlen j → m j z = m' j z
theorem jarr_ext {c : ClassId} {n : Nat} {f g : Nat → Value} (h : ∀ k, k < n → f k = g k) : arrV c n f = arrV c n g := by
  unfold arrV
  congr 1
  apply Array.ext
  · simp
  · intro i h1 h2
    simp only [Array.getElem_ofFn]
    exact h i (by simpa using h1)
theorem jcell_eqv {X : jX} {m m' : jM} (h : jeqv m m') {j : Nat} (hj : j < 61) {H : Heap} (hc : va_at (xD X) jC (xa X j, jcell X m j) H) : va_at (xD X) jC (xa X j, jcell X m' j) H := by
  have hh := h j hj
  by_cases e1 : 19 ≤ j ∧ j < 38
  · rw [jcell_to e1] at hc ⊢
    rw [← hh 0 (Int.le_refl 0) (by unfold mlen; rw [if_pos e1]; decide)]
    exact hc
  by_cases e2 : j = 38
  · subst e2; exact hc
  by_cases e3 : j = 39
  · subst e3; exact hc
  by_cases e4 : j = 40
  · subst e4
    have q0 := hh 0 (by decide) (by decide)
    unfold jcell at hc ⊢
    simp only [q0] at hc
    exact hc
  by_cases e5 : j = 43
  · subst e5
    rw [jcell_43] at hc ⊢
    refine Eq.trans hc (congrArg some ?_)
    exact jarr_ext (c := xc X 1) (n := 257) (f := fun k => .int (jrow m 43 k)) (g := fun k => .int (jrow m' 43 k)) (fun k hk => congrArg Value.int (congrArg Int32.ofInt (hh k (by omega) (by have : mlen 43 = 257 := rfl; omega))))
  by_cases e6 : j = 45
  · subst e6
    have q0 := hh 0 (by decide) (by decide)
    have q1 := hh 1 (by decide) (by decide)
    unfold jcell at hc ⊢
    simp only [q0, q1] at hc
    exact hc
  by_cases e7 : j = 46
  · subst e7; exact hc
  by_cases e8 : j = 48
  · subst e8
    have q0 := hh 0 (by decide) (by decide)
    have q1 := hh 1 (by decide) (by decide)
    have q2 := hh 2 (by decide) (by decide)
    unfold jcell at hc ⊢
    simp only [q0, q1, q2] at hc
    exact hc
  by_cases e9 : j = 51
  · subst e9
    have q0 := hh 0 (by decide) (by decide)
    have q1 := hh 1 (by decide) (by decide)
    have q2 := hh 2 (by decide) (by decide)
    have q3 := hh 3 (by decide) (by decide)
    unfold jcell at hc ⊢
    simp only [q0, q1, q2, q3] at hc
    exact hc
  by_cases ea : j = 59
  · subst ea
    refine Eq.trans (show H[xa X 59]? = _ from hc) (congrArg some ?_)
    exact jarr_ext (c := xc X 3) (n := 1) (f := fun k => .long (Int64.ofInt (m 59 (k : Int)))) (g := fun k => .long (Int64.ofInt (m' 59 (k : Int)))) (fun k hk => congrArg Value.long (congrArg Int64.ofInt (hh k (by omega) (by have : mlen 59 = 1 := rfl; omega))))
  by_cases eb : j = 60
  · subst eb
    refine Eq.trans (show H[xa X 60]? = _ from hc) (congrArg some ?_)
    exact jarr_ext (c := xc X 4) (n := 1) (f := fun k => .double (UInt64.ofNat (m 60 (k : Int)).toNat)) (g := fun k => .double (UInt64.ofNat (m' 60 (k : Int)).toNat)) (fun k hk => congrArg Value.double (congrArg (fun q : Int => UInt64.ofNat q.toNat) (hh k (by omega) (by have : mlen 60 = 1 := rfl; omega))))
  have hir : jir j := by unfold jir; omega
  have hl : mlen j = aln j := by
    unfold mlen
    rw [if_neg e1, if_neg e2, if_neg e3, if_neg e4, if_neg e5, if_neg e6, if_neg e7, if_neg e8, if_neg e9, if_neg ea, if_neg eb]
  rw [jcell_ir hir] at hc ⊢
  refine Eq.trans hc (congrArg some ?_)
  exact jarr_ext (c := xc X 0) (n := aln j) (f := fun k => .int (jrow m j k)) (g := fun k => .int (jrow m' j k)) (fun k hk => congrArg Value.int (congrArg Int32.ofInt (hh k (by omega) (by rw [hl]; omega))))
theorem wl_eqv {X : jX} {m m' : jM} (h : jeqv m m') {H : Heap} (hP : va_P (xD X) jC (wl X m) H) : va_P (xD X) jC (wl X m') H := by
  intro k q hk
  have hlt : k < 61 := by
    have := (List.getElem?_eq_some_iff.mp hk).1
    rw [wl_len] at this
    exact this
  rw [wl_get X m' hlt] at hk
  cases hk
  exact jcell_eqv h hlt (hP k _ (wl_get X m hlt))
theorem mlen_t {t : Nat} (h : t < 19) : mlen t = 257 := by
  unfold mlen
  rw [if_neg (by omega), if_neg (by omega), if_neg (by omega), if_neg (by omega), if_neg (by omega), if_neg (by omega), if_neg (by omega), if_neg (by omega), if_neg (by omega), if_neg (by omega), if_neg (by omega), aln_t h]
theorem mlen_o {t : Nat} (h : t < 19) : mlen (19 + t) = 1 := if_pos ⟨by omega, by omega⟩
/-- a whole row of the memory -/
def mrow (m : jM) (j : Nat) (f : Int → Int) : jM := fun i => if i = j then f else m i
theorem mrow_at (m : jM) (j : Nat) (f : Int → Int) : mrow m j f j = f := if_pos rfl
theorem mrow_ne {m : jM} {j i : Nat} {f : Int → Int} (h : i ≠ j) : mrow m j f i = m i := if_neg h
section JT
variable {F : jF} {X : jX} {m : jM} {pc : Nat} {lv : List (Nat × jV)} {st : List jV} {own : String} {cc : ByteArray} {nl dp : Nat} {rt : Option FieldType}
theorem g_eqv {m' : jM} (h : jeqv m m') (k : jG F X m' pc lv st) : jG F X m pc lv st := fun ls H locs hl hP hS => k ls H locs hl (wl_eqv h hP) hS
theorem jkN_tabs {w : Cond} (h : jkN w = true) : w.onTables = true := by
  cases w <;> first | rfl | exact absurd h Bool.false_ne_true
theorem jw_before (hF : jOk F X own cc nl rt dp) {w : Cond} (h : w ∈ Tb ∨ w ∈ Tn) : w.before (fa F) (fs F) = true := by
  rcases h with h | h
  · exact hF.ts w h
  · exact va_Nw.use (jkN_tabs (List.mem_filter.mp h).2) (hF.Z.1 w h)
theorem jw_ot {w : Cond} (h : w ∈ Tb ∨ w ∈ Tn) : vx_ot w = true := by
  unfold vx_ot
  rcases h with h | h
  · rw [(List.mem_filter.mp h).2, Bool.or_true]
  · rw [jkN_tabs (List.mem_filter.mp h).2, Bool.true_or]
/-- the words of a throw, by the tables -/
def jthr (own : String) (ik ic : Nat) (E : String) (names : List String) : Prop :=
  Cond.classLink own ik E ∈ Tb ∧ Cond.initialized E ∈ Tb ∧ (∀ w ∈ vx_atS own ic E names, w ∈ Tb ∨ w ∈ Tn) ∧ Bundle.fit E = true ∧ ∀ n ∈ names, Bundle.fit n = true
theorem g_throw (hF : jOk F X own cc nl rt dp) {E : String} {P : jM → Prop} (hQ : jEndX F X P E) {ik ic is : Nat} {names : List String} {text : String} (hw : jthr own ik ic E names) (hs : (own, is, text) ∈ jStr)
    (d0 : decode cc pc = .ok (.new ik, 3)) (d3 : decode cc (pc + 3) = .ok (.dup, 1)) (d4 : decode cc (pc + 4) = .ok (.ldc is, 2)) (d6 : decode cc (pc + 6) = .ok (.invokespecial ic, 3)) (d9 : decode cc (pc + 9) = .ok (.athrow, 1))
    (hf : names.length + 3 < dp) (hlo : 2 * st.length + (13 * (names.length + 1) + 43) ≤ 200 * dp) (hp : P m := by first | exact rfl | exact ⟨_, rfl⟩ | assumption) : jG F X m pc lv st := by
  obtain ⟨w1, w2, w3, w4, w5⟩ := hw
  obtain ⟨q1, q2, q3, q4, q5, q6⟩ := hQ
  obtain ⟨R1, R2, -, -⟩ := hF.R
  intro ls H locs hl hP hS
  obtain ⟨sa, hsa⟩ := hF.Z.2.1 _ hs
  unfold jW
  rw [q1, q2, q3]
  refine vx_throwS hF.x hF.b hF.xk.2.2 (own := own) (cls := E) (text := text) (names := names) (ik := ik) (is := is) (ic := ic) (sa := sa) (A := jA X) hF.o w4 w5 (hF.ts _ w1) (hF.ts _ w2) hsa (fun w h => jw_before hF (w3 w h)) (fun w h => ?_) hF.Z.2.2.2.1 hF.Z.2.2.2.2 hS hl.1 d0 d3 d4 d6 d9 (fun x hx => (q4 x hx).elim) (Nat.lt_of_lt_of_le hf R1) (Nat.le_trans (by have := jsum X st; omega) R2) (by rw [q5]; exact Nat.le_refl _) (by rw [q6]; exact Nat.le_refl _) hF.lk (fun t hA h1 h2 => ⟨rfl, ⟨m, hp, hP.kept (fun k q hk => h2 q.1 ((hP k q hk).lt))⟩, ⟨Nat.le_trans hS.1 h1, fun q hq hA => by rw [h2 q (Nat.lt_of_lt_of_le hq hS.1)]; exact hS.2.1 q hq hA⟩⟩) hS.2.2 (Nat.le_refl _) (Nat.le_refl _)
  rcases List.mem_cons.mp h with h | h
  · exact jw_ot (Or.inl (by rw [h]; exact w1))
  rcases List.mem_cons.mp h with h | h
  · exact jw_ot (Or.inl (by rw [h]; exact w2))
  · exact jw_ot (w3 w h)
theorem g_throwW (hF : jOk F X own cc nl rt dp) {E : String} {P : jM → Prop} (hQ : jEndX F X P E) {ik ic is : Nat} {names : List String} {text : String} (hw : jthr own ik ic E names) (hs : (own, is, text) ∈ jStr)
    (d0 : decode cc pc = .ok (.new ik, 3)) (d3 : decode cc (pc + 3) = .ok (.dup, 1)) (d4 : decode cc (pc + 4) = .ok (.ldc_w is, 3)) (d7 : decode cc (pc + 7) = .ok (.invokespecial ic, 3)) (d10 : decode cc (pc + 10) = .ok (.athrow, 1))
    (hf : names.length + 3 < dp) (hlo : 2 * st.length + (13 * (names.length + 1) + 43) ≤ 200 * dp) (hp : P m := by first | exact rfl | exact ⟨_, rfl⟩ | assumption) : jG F X m pc lv st := by
  obtain ⟨w1, w2, w3, w4, w5⟩ := hw
  obtain ⟨q1, q2, q3, q4, q5, q6⟩ := hQ
  obtain ⟨R1, R2, -, -⟩ := hF.R
  intro ls H locs hl hP hS
  obtain ⟨sa, hsa⟩ := hF.Z.2.1 _ hs
  unfold jW
  rw [q1, q2, q3]
  refine vx_throwSW hF.x hF.b hF.xk.2.2 (own := own) (cls := E) (text := text) (names := names) (ik := ik) (is := is) (ic := ic) (sa := sa) (A := jA X) hF.o w4 w5 (hF.ts _ w1) (hF.ts _ w2) hsa (fun w h => jw_before hF (w3 w h)) (fun w h => ?_) hF.Z.2.2.2.1 hF.Z.2.2.2.2 hS hl.1 d0 d3 d4 d7 d10 (fun x hx => (q4 x hx).elim) (Nat.lt_of_lt_of_le hf R1) (Nat.le_trans (by have := jsum X st; omega) R2) (by rw [q5]; exact Nat.le_refl _) (by rw [q6]; exact Nat.le_refl _) hF.lk (fun t hA h1 h2 => ⟨rfl, ⟨m, hp, hP.kept (fun k q hk => h2 q.1 ((hP k q hk).lt))⟩, ⟨Nat.le_trans hS.1 h1, fun q hq hA => by rw [h2 q (Nat.lt_of_lt_of_le hq hS.1)]; exact hS.2.1 q hq hA⟩⟩) hS.2.2 (Nat.le_refl _) (Nat.le_refl _)
  rcases List.mem_cons.mp h with h | h
  · exact jw_ot (Or.inl (by rw [h]; exact w1))
  rcases List.mem_cons.mp h with h | h
  · exact jw_ot (Or.inl (by rw [h]; exact w2))
  · exact jw_ot (w3 w h)
def jlkMax (own : String) (idx : Nat) : Prop := Cond.methodLink own idx Lib.Math.max.name ∈ Tb ∧ Cond.static Lib.Math.max.name ∈ Tb ∧ Cond.initialized "java/lang/Math" ∈ Tb ∧ Cond.code Lib.Math.max.name Lib.Math.max.code 2 (some .int) ∈ Tb
def jlkMin (own : String) (idx : Nat) : Prop := Cond.methodLink own idx Lib.Math.min.name ∈ Tb ∧ Cond.static Lib.Math.min.name ∈ Tb ∧ Cond.initialized "java/lang/Math" ∈ Tb ∧ Cond.code Lib.Math.min.name Lib.Math.min.code 2 (some .int) ∈ Tb
theorem g_max (hF : jOk F X own cc nl rt dp) {idx : Nat} {a b : Int} (hlk : jlkMax own idx) (hd : decode cc pc = .ok (.invokestatic idx, 3)) (hdp : 1 ≤ dp) (ha : jr a) (hb : jr b) (hst : st.length ≤ 4) (k : jG F X m (pc + 3) lv (vI (if a < b then b else a) :: st)) : jG F X m pc lv (vI b :: vI a :: st) := by
  obtain ⟨w1, w2, w3, w4⟩ := hlk
  obtain ⟨R1, R2, R3, R4⟩ := hF.R
  intro ls H locs hl hP hS
  refine va_mmax hF.x hF.b hl.1.symm hF.o (hF.ts _ w1) (hF.ts _ w2) (hF.ts _ w3) (hF.ts _ w4) (Nat.le_trans hdp R1) (Nat.le_trans (by have := jsum X st; omega) R2) R3 R4 hd ?_
  have e : (if Int32.ofInt a < Int32.ofInt b then Int32.ofInt b else Int32.ofInt a) = Int32.ofInt (if a < b then b else a) := by
    by_cases h : a < b
    · rw [if_pos h, if_pos ((ji_lt ha hb).mpr h)]
    · rw [if_neg h, if_neg (fun q => h ((ji_lt ha hb).mp q))]
  rw [e]
  exact k ls H locs hl hP hS
theorem g_min (hF : jOk F X own cc nl rt dp) {idx : Nat} {a b : Int} (hlk : jlkMin own idx) (hd : decode cc pc = .ok (.invokestatic idx, 3)) (hdp : 1 ≤ dp) (ha : jr a) (hb : jr b) (hst : st.length ≤ 4) (k : jG F X m (pc + 3) lv (vI (if b < a then b else a) :: st)) : jG F X m pc lv (vI b :: vI a :: st) := by
  obtain ⟨w1, w2, w3, w4⟩ := hlk
  obtain ⟨R1, R2, R3, R4⟩ := hF.R
  intro ls H locs hl hP hS
  refine va_mmin hF.x hF.b hl.1.symm hF.o (hF.ts _ w1) (hF.ts _ w2) (hF.ts _ w3) (hF.ts _ w4) (Nat.le_trans hdp R1) (Nat.le_trans (by have := jsum X st; omega) R2) R3 R4 hd ?_
  have e : (if Int32.ofInt b < Int32.ofInt a then Int32.ofInt b else Int32.ofInt a) = Int32.ofInt (if b < a then b else a) := by
    by_cases h : b < a
    · rw [if_pos h, if_pos ((ji_lt hb ha).mpr h)]
    · rw [if_neg h, if_neg (fun q => h ((ji_lt hb ha).mp q))]
  first
  | (rw [e]; exact k ls H locs hl hP hS)
  | (have e2 : (if Int32.ofInt a < Int32.ofInt b then Int32.ofInt a else Int32.ofInt b) = Int32.ofInt (if b < a then b else a) := by
      by_cases h : b < a
      · rw [if_pos h, if_neg (fun q => by have := (ji_lt ha hb).mp q; omega)]
      · rw [if_neg h]
        by_cases h2 : a < b
        · rw [if_pos ((ji_lt ha hb).mpr h2)]
        · rw [if_neg (fun q => h2 ((ji_lt ha hb).mp q))]
          exact congrArg Int32.ofInt (by omega)
     rw [e2]
     exact k ls H locs hl hP hS)
  | (have e3 : (if Int32.ofInt a ≤ Int32.ofInt b then Int32.ofInt a else Int32.ofInt b) = Int32.ofInt (if b < a then b else a) := by
      by_cases h : b < a
      · rw [if_pos h, if_neg (fun q => by have := (ji_le ha hb).mp q; omega)]
      · rw [if_neg h, if_pos ((ji_le ha hb).mpr (by omega))]
     rw [e3]
     exact k ls H locs hl hP hS)
def jlkCopy (own : String) (idx : Nat) : Prop := Cond.methodLink own idx arraycopyName ∈ Tb ∧ Cond.native arraycopyName ∈ Tb ∧ Cond.static arraycopyName ∈ Tb ∧ Cond.initialized "java/lang/System" ∈ Tb
/-- a table's row copied over another's -/
theorem g_copy (hF : jOk F X own cc nl rt dp) {idx t u : Nat} (hlk : jlkCopy own idx) (hd : decode cc pc = .ok (.invokestatic idx, 3)) (hdp : 1 ≤ dp) (ht : t < 19) (hu : u < 19) (hst : st.length ≤ 4) (k : jG F X (mrow m u (m t)) (pc + 3) lv st) : jG F X m pc lv (vI 257 :: vI 0 :: vR 0 u :: vI 0 :: vR 0 t :: st) := by
  obtain ⟨w1, w2, w3, w4⟩ := hlk
  obtain ⟨R1, R2, R3, R4⟩ := hF.R
  intro ls H locs hl hP hS
  have c1 : (wl X m)[t]? = some (xa X t, .inl (xc X 0, 257, .inl (jrow m t))) := by rw [wl_get X m (by omega), jcell_ir (Or.inl ht), aln_t ht]
  have c2 : (wl X m)[u]? = some (xa X u, .inl (xc X 0, 257, .inl (jrow m u))) := by rw [wl_get X m (by omega), jcell_ir (Or.inl hu), aln_t hu]
  have n0 : (Int32.ofInt 0).toNatClampNeg = 0 := by decide
  have n1 : (Int32.ofInt 257).toNatClampNeg = 257 := by decide
  have h9 : nativeFrameWords "java/lang/System" "arraycopy" 5 + 11 ≤ 100 := by decide +kernel
  have h8 := jsum X st
  refine va_copyi hF.x hF.b hl.1.symm hF.o (hF.ts _ w1) (hF.ts _ w2) (hF.ts _ w3) (hF.ts _ w4) hF.K hP hF.D hS t u 0 0 (ty := .int) (sp := Int32.ofInt 0) (dp := Int32.ofInt 0) (n := Int32.ofInt 257) c1 c2 rfl rfl rfl (by decide) (by decide) (by decide) (by rw [n0, n1]; decide) (by rw [n0, n1]; decide) (fun _ _ => rfl) (Nat.le_trans hdp R1) (Nat.le_trans (by omega) R2) hd (fun H1 locs1 a1 _ a3 => ?_)
  refine k ls H1 locs1 hl ?_ a3
  intro i q hi
  have hlt : i < 61 := by
    have := (List.getElem?_eq_some_iff.mp hi).1
    rw [wl_len] at this
    exact this
  rw [wl_get X _ hlt] at hi
  cases hi
  by_cases e : i = u
  · subst e
    have h1 := a1 i (xa X i, .inl (xc X 0, 257, .inl (va_cpy (jrow m t) (jrow m i) 0 0 257))) (by rw [List.getElem?_set_self (by rw [wl_len]; exact hlt), n0, n1])
    rw [jcell_ir (Or.inl hu), aln_t hu]
    refine Eq.trans h1 (congrArg some ?_)
    refine jarr_ext (c := xc X 0) (n := 257) (f := fun k => .int (va_cpy (jrow m t) (jrow m i) 0 0 257 k)) (g := fun k => .int (jrow (mrow m i (m t)) i k)) (fun k hk => congrArg Value.int ?_)
    unfold va_cpy jrow
    rw [if_pos ⟨Nat.zero_le _, by omega⟩, mrow_at, Nat.zero_add, Nat.sub_zero]
  · rw [← jcell_congr (X := X) (m := m) (mrow_ne e).symm]
    exact a1 i _ (by rw [List.getElem?_set_ne (Ne.symm e), wl_get X m hlt])
end JT

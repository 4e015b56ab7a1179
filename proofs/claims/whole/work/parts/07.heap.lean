/-! THE HEAP'S ROWS -/
def tinA (w : Cond) : Prop := w ∈ lw_tbl
theorem tin1 {w : Cond} (h : w ∈ tables_1_1) : w ∈ lw_tbl := List.mem_append_right _ (List.mem_append_left _ h)
theorem tin2 {w : Cond} (h : w ∈ tables_1_2) : w ∈ lw_tbl := List.mem_append_right _ (List.mem_append_right _ (List.mem_append_left _ h))
theorem tin3 {w : Cond} (h : w ∈ tables_1_3) : w ∈ lw_tbl := List.mem_append_right _ (List.mem_append_right _ (List.mem_append_right _ (List.mem_append_left _ h)))
theorem tin4 {w : Cond} (h : w ∈ tables_1_4) : w ∈ lw_tbl := List.mem_append_right _ (List.mem_append_right _ (List.mem_append_right _ (List.mem_append_right _ (List.mem_append_left _ h))))
theorem tin5 {w : Cond} (h : w ∈ tables_1_5) : w ∈ lw_tbl := List.mem_append_right _ (List.mem_append_right _ (List.mem_append_right _ (List.mem_append_right _ (List.mem_append_right _ (List.mem_append_left _ h)))))
theorem tin6 {w : Cond} (h : w ∈ tables_1_6) : w ∈ lw_tbl := List.mem_append_right _ (List.mem_append_right _ (List.mem_append_right _ (List.mem_append_right _ (List.mem_append_right _ (List.mem_append_right _ h)))))
theorem tin0 {w : Cond} (h : w ∈ k2_sels lw_privs) : w ∈ lw_tbl := List.mem_append_left _ h
theorem jC_in : ∀ q ∈ jC, ∀ w ∈ u_ws q.1 q.2.1 q.2.2, w ∈ Tb := by decide +kernel
theorem jC_ty (ci : Nat) (q : vw_C) (h : jC[ci]? = some q) : ∃ ty0 : Nat → FieldType, (∀ k, k < q.2.2 → parseFieldDescriptor (q.2.1 k).2.2.1 = some (ty0 k)) ∧ (∀ a, a < q.2.2 → ∀ b, b < q.2.2 → a ≠ b → (q.2.1 a).2.1 ≠ (q.2.1 b).2.1) := by
  match ci, h with
  | 0, h => cases h; exact ⟨tyX0, tyX0_ok, nmX0⟩
  | 1, h => cases h; exact ⟨tyX1, tyX1_ok, nmX1⟩
  | 2, h => cases h; exact ⟨tyX2, tyX2_ok, nmX2⟩
  | 3, h => cases h; exact ⟨tyX3, tyX3_ok, nmX3⟩
  | 4, h => cases h; exact ⟨tyX4, tyX4_ok, nmX4⟩
  | 5, h => cases h; exact ⟨tyX5, tyX5_ok, nmX5⟩
  | k + 6, h => simp at h
/-- the fields of an object: its class's number, and what they hold -/
def fvals (m : jM) (r : Nat × Nat) : Option (Nat × List jV) := match r.1 with
  | 0 => none
  | 1 => some (2, [vR 0 r.2, vI (m (19 + r.2) 0)])
  | _ => if r.2 = 38 then some (4, [vR 2 39, vR 2 40, vR 2 45, vR 2 48, vR 1 16, vR 1 17, vR 1 18, vR 2 50])
    else if r.2 = 40 then some (1, [vR 2 41, vR 2 42, vR 2 43, vR 2 44, vI (m 40 0)])
    else if r.2 = 45 then some (0, [vR 2 46, vR 2 47, vI (m 45 0), vI (m 45 1)])
    else if r.2 = 48 then some (3, [vR 2 49, vI (m 48 0), vI (m 48 1), vI (m 48 2)])
    else if r.2 = 51 then some (5, [vR 2 52, vR 2 53, vR 2 54, vR 2 55, vR 2 56, vI (m 51 0), vR 2 57, vR 2 58, vI (m 51 1), vI (m 51 2), vI (m 51 3)])
    else none
theorem fvals_ok (X : jX) {m : jM} {r : Nat × Nat} {ci : Nat} {vs : List jV} (h : fvals m r = some (ci, vs)) (hr : jok r) : jcell X m (cid r) = .inr (ci, vs.map (dn X)) := by
  obtain ⟨k, j⟩ := r
  match k, h, hr with
  | 0, h, _ => cases h
  | 1, h, hr =>
    cases h
    have hj : j < 19 := hr
    show jcell X m (19 + j) = _
    rw [jcell_to ⟨by omega, by omega⟩, show 19 + j - 19 = j by omega]
    rfl
  | k + 2, h, _ =>
    have h2 : (if j = 38 then some (4, [vR 2 39, vR 2 40, vR 2 45, vR 2 48, vR 1 16, vR 1 17, vR 1 18, vR 2 50])
    else if j = 40 then some (1, [vR 2 41, vR 2 42, vR 2 43, vR 2 44, vI (m 40 0)])
    else if j = 45 then some (0, [vR 2 46, vR 2 47, vI (m 45 0), vI (m 45 1)])
    else if j = 48 then some (3, [vR 2 49, vI (m 48 0), vI (m 48 1), vI (m 48 2)])
    else if j = 51 then some (5, [vR 2 52, vR 2 53, vR 2 54, vR 2 55, vR 2 56, vI (m 51 0), vR 2 57, vR 2 58, vI (m 51 1), vI (m 51 2), vI (m 51 3)])
    else none) = some (ci, vs) := h
    show jcell X m j = _
    by_cases e1 : j = 38
    · subst e1; rw [if_pos rfl] at h2; cases h2; rfl
    rw [if_neg e1] at h2
    by_cases e2 : j = 40
    · subst e2; rw [if_pos rfl] at h2; cases h2; rfl
    rw [if_neg e2] at h2
    by_cases e3 : j = 45
    · subst e3; rw [if_pos rfl] at h2; cases h2; rfl
    rw [if_neg e3] at h2
    by_cases e4 : j = 48
    · subst e4; rw [if_pos rfl] at h2; cases h2; rfl
    rw [if_neg e4] at h2
    by_cases e5 : j = 51
    · subst e5; rw [if_pos rfl] at h2; cases h2; rfl
    rw [if_neg e5] at h2
    cases h2
/-- where a number of an object stands in the memory -/
def fpl (r : Nat × Nat) (k : Nat) : Option Int := match r.1 with
  | 0 => none
  | 1 => if k = 1 then some 0 else none
  | _ => if r.2 = 40 then (if k = 4 then some 0 else none)
    else if r.2 = 45 then (if k = 2 then some 0 else if k = 3 then some 1 else none)
    else if r.2 = 48 then (if k = 1 then some 0 else if k = 2 then some 1 else if k = 3 then some 2 else none)
    else if r.2 = 51 then (if k = 5 then some 0 else if k = 8 then some 1 else if k = 9 then some 2 else if k = 10 then some 3 else none)
    else none
theorem fpl_ok (X : jX) {m : jM} {r : Nat × Nat} {k : Nat} {z y : Int} (h : fpl r k = some z) (hr : jok r) : ∃ (ci : Nat) (vs : List jV), fvals m r = some (ci, vs) ∧ k < vs.length ∧ jcell X (mset m (cid r) z y) (cid r) = .inr (ci, (vs.map (dn X)).set k (.int (Int32.ofInt y))) := by
  obtain ⟨c, j⟩ := r
  match c, h, hr with
  | 0, h, _ => cases h
  | 1, h, hr =>
    have hj : j < 19 := hr
    have h2 : (if k = 1 then some (0 : Int) else none) = some z := h
    by_cases e : k = 1
    · subst e
      rw [if_pos rfl] at h2
      cases h2
      refine ⟨2, _, rfl, Nat.le_refl _, ?_⟩
      show jcell X (mset m (19 + j) 0 y) (19 + j) = _
      rw [jcell_to ⟨by omega, by omega⟩, show 19 + j - 19 = j by omega, mset_at]
      rfl
    · rw [if_neg e] at h2; cases h2
  | c + 2, h, _ =>
    have h2 : (if j = 40 then (if k = 4 then some (0 : Int) else none)
    else if j = 45 then (if k = 2 then some 0 else if k = 3 then some 1 else none)
    else if j = 48 then (if k = 1 then some 0 else if k = 2 then some 1 else if k = 3 then some 2 else none)
    else if j = 51 then (if k = 5 then some 0 else if k = 8 then some 1 else if k = 9 then some 2 else if k = 10 then some 3 else none)
    else none) = some z := h
    by_cases e2 : j = 40
    · subst e2
      rw [if_pos rfl] at h2
      by_cases a : k = 4
      · subst a; rw [if_pos rfl] at h2; cases h2; exact ⟨1, _, rfl, by simp, rfl⟩
      · rw [if_neg a] at h2; cases h2
    rw [if_neg e2] at h2
    by_cases e3 : j = 45
    · subst e3
      rw [if_pos rfl] at h2
      by_cases a : k = 2
      · subst a; rw [if_pos rfl] at h2; cases h2; exact ⟨0, _, rfl, by simp, rfl⟩
      rw [if_neg a] at h2
      by_cases a : k = 3
      · subst a; rw [if_pos rfl] at h2; cases h2; exact ⟨0, _, rfl, by simp, rfl⟩
      rw [if_neg a] at h2; cases h2
    rw [if_neg e3] at h2
    by_cases e4 : j = 48
    · subst e4
      rw [if_pos rfl] at h2
      by_cases a : k = 1
      · subst a; rw [if_pos rfl] at h2; cases h2; exact ⟨3, _, rfl, by simp, rfl⟩
      rw [if_neg a] at h2
      by_cases a : k = 2
      · subst a; rw [if_pos rfl] at h2; cases h2; exact ⟨3, _, rfl, by simp, rfl⟩
      rw [if_neg a] at h2
      by_cases a : k = 3
      · subst a; rw [if_pos rfl] at h2; cases h2; exact ⟨3, _, rfl, by simp, rfl⟩
      rw [if_neg a] at h2; cases h2
    rw [if_neg e4] at h2
    by_cases e5 : j = 51
    · subst e5
      rw [if_pos rfl] at h2
      by_cases a : k = 5
      · subst a; rw [if_pos rfl] at h2; cases h2; exact ⟨5, _, rfl, by simp, rfl⟩
      rw [if_neg a] at h2
      by_cases a : k = 8
      · subst a; rw [if_pos rfl] at h2; cases h2; exact ⟨5, _, rfl, by simp, rfl⟩
      rw [if_neg a] at h2
      by_cases a : k = 9
      · subst a; rw [if_pos rfl] at h2; cases h2; exact ⟨5, _, rfl, by simp, rfl⟩
      rw [if_neg a] at h2
      by_cases a : k = 10
      · subst a; rw [if_pos rfl] at h2; cases h2; exact ⟨5, _, rfl, by simp, rfl⟩
      rw [if_neg a] at h2; cases h2
    rw [if_neg e5] at h2
    cases h2
/-- a field's place in a class's pool -/
def jlink (own : String) (idx ci k : Nat) : Prop := ∃ q : vw_C, jC[ci]? = some q ∧ k < q.2.2 ∧ (Cond.fieldLink own idx (q.2.1 k).1 (q.2.1 k).2.1 (q.2.1 k).2.2.1 ∈ Tb ∨ ∃ host : String, Cond.fieldLinkNest own idx (q.2.1 k).1 (q.2.1 k).2.1 (q.2.1 k).2.2.1 host ∈ Tn)
/-- .. and that it may be written, and its type -/
def jlinkP (own : String) (idx ci k : Nat) (ty : FieldType) : Prop := ∃ q : vw_C, jC[ci]? = some q ∧ k < q.2.2 ∧ (q.2.1 k).2.2.2 = false ∧ parseFieldDescriptor (q.2.1 k).2.2.1 = some ty ∧ (Cond.fieldLink own idx (q.2.1 k).1 (q.2.1 k).2.1 (q.2.1 k).2.2.1 ∈ Tb ∨ ∃ host : String, Cond.fieldLinkNest own idx (q.2.1 k).1 (q.2.1 k).2.1 (q.2.1 k).2.2.1 host ∈ Tn)
section JH
variable {F : jF} {X : jX} {m : jM} {pc : Nat} {lv : List (Nat × jV)} {st : List jV} {own : String} {cc : ByteArray} {nl dp : Nat} {rt : Option FieldType}
theorem jOk.D (h : jOk F X own cc nl rt dp) : va_D (jA X) (wl X m) := jxD h.xk m
theorem g_get (hF : jOk F X own cc nl rt dp) {idx ci k : Nat} (hl : jlink own idx ci k) (hd : decode cc pc = .ok (.getfield idx, 3)) {r : Nat × Nat} (hr : jok r) {vs : List jV} (hf : fvals m r = some (ci, vs)) {v : jV} (hv : vs[k]? = some v) (kk : jG F X m (pc + 3) lv (v :: st)) : jG F X m pc lv (.inr (.inl r) :: st) := by
  obtain ⟨q, hq, hk, hw⟩ := hl
  have hin := jC_in q (List.mem_of_getElem? hq)
  intro ls H locs hl hP hS
  have he : (wl X m)[cid r]? = some (xa X (cid r), .inr (ci, vs.map (dn X))) := by rw [wl_get X m (jok_lt hr), fvals_ok X hf hr]
  have hv2 : (vs.map (dn X))[k]? = some (dn X v) := by rw [List.getElem?_map, hv]; rfl
  rcases hw with hw | ⟨host, hw⟩
  · exact va_get hF.x hF.b hF.ts hin hF.o hF.K hP (cid r) he hq k hk (hF.ts _ hw) (fun _ h => h) hv2 hd (kk ls H locs hl hP hS)
  · exact va_getN hF.x hF.b hF.ts hin hF.o hF.K hP (cid r) he hq k hk (va_Nw.use rfl (hF.Z.1 _ hw)) (fun _ h => h) hv2 hd (kk ls H locs hl hP hS)
theorem g_put (hF : jOk F X own cc nl rt dp) {idx ci k : Nat} {ty : FieldType} (hl : jlinkP own idx ci k ty) (hd : decode cc pc = .ok (.putfield idx, 3)) {r : Nat × Nat} (hr : jok r) {vs0 : List jV} (hf : fvals m r = some (ci, vs0)) {z y : Int} (hp : fpl r k = some z) (hty : ty = .int ∨ (ty = .boolean ∧ (y = 0 ∨ y = 1))) (kk : jG F X (mset m (cid r) z y) (pc + 3) lv st) : jG F X m pc lv (vI y :: .inr (.inl r) :: st) := by
  obtain ⟨q, hq, hk, hfin, hdesc, hw⟩ := hl
  have hin := jC_in q (List.mem_of_getElem? hq)
  obtain ⟨ty0, h1, h2⟩ := jC_ty ci q hq
  obtain ⟨ci2, vs, hf2, hkl, hcell⟩ := fpl_ok (y := y) X (m := m) hp hr
  rw [hf] at hf2
  cases hf2
  intro ls H locs hl hP hS
  have he : (wl X m)[cid r]? = some (xa X (cid r), .inr (ci, vs0.map (dn X))) := by rw [wl_get X m (jok_lt hr), fvals_ok X hf hr]
  have hset := wl_set (X := X) (m := m) (m' := mset m (cid r) z y) (jok_lt hr) hcell.symm (fun i hi => (mset_ne hi).symm)
  have hn : narrow ty (.int (Int32.ofInt y)) = .int (Int32.ofInt y) := by
    rcases hty with e | ⟨e, e2 | e2⟩
    · subst e; rfl
    · subst e; subst e2; rfl
    · subst e; subst e2; rfl
  have hfit : fits ty (.int (Int32.ofInt y)) = true := by
    rcases hty with e | ⟨e, e2 | e2⟩
    · subst e; rfl
    · subst e; subst e2; rfl
    · subst e; subst e2; rfl
  have hlen : k < (vs0.map (dn X)).length := by rw [List.length_map]; exact hkl
  have kk2 : ∀ (H1 : Heap) (locs1 : List Loc), va_P (xD X) jC ((wl X m).set (cid r) (xa X (cid r), .inr (ci, (vs0.map (dn X)).set k (.int (Int32.ofInt y))))) H1 → va_D (jA X) ((wl X m).set (cid r) (xa X (cid r), .inr (ci, (vs0.map (dn X)).set k (.int (Int32.ofInt y))))) → va_S (jA X) (fs F).heap H1 locs1 → jW F X H1 locs1 (F0 (fm F) (pc + 3) ls (st.map (dn X))) := by
    intro H1 locs1 a1 _ a3
    rw [hset] at a1
    exact kk ls H1 locs1 hl a1 a3
  rcases hw with hw | ⟨host, hw⟩
  · exact va_put hF.x hF.b hF.ts hin ty0 h1 h2 hF.o hF.K hP hF.D hS (cid r) he hq k hk (hF.ts _ hw) (fun _ h => h) hfin hdesc hn hfit hlen hd kk2
  · exact va_putN hF.x hF.b hF.ts hin ty0 h1 h2 hF.o hF.K hP hF.D hS (cid r) he hq k hk (va_Nw.use rfl (hF.Z.1 _ hw)) (fun _ h => h) hfin hdesc hn hfit hlen hd kk2
/-! rows of ints -/
theorem aln_t {t : Nat} (h : t < 19) : aln t = 257 := by
  unfold aln
  rw [if_neg (by omega), if_neg (by omega), if_neg (by omega), if_neg (by omega)]
def rlen (r : Nat × Nat) : Nat := match r.1 with
  | 0 => 257
  | _ => aln r.2
def jrr (r : Nat × Nat) : Prop := match r.1 with
  | 0 => r.2 < 19
  | 1 => False
  | _ => r.2 = 41 ∨ r.2 = 42 ∨ r.2 = 44 ∨ r.2 = 47 ∨ r.2 = 49 ∨ r.2 = 50 ∨ (52 ≤ r.2 ∧ r.2 ≤ 58)
theorem jrr_ir {r : Nat × Nat} (h : jrr r) : jir (cid r) ∧ aln (cid r) = rlen r ∧ cid r < 61 := by
  obtain ⟨c, j⟩ := r
  match c, h with
  | 0, h => have hj : j < 19 := h; exact ⟨Or.inl hj, aln_t hj, by show j < 61; omega⟩
  | 1, h => exact absurd h id
  | c + 2, h =>
    have hj : j = 41 ∨ j = 42 ∨ j = 44 ∨ j = 47 ∨ j = 49 ∨ j = 50 ∨ (52 ≤ j ∧ j ≤ 58) := h
    exact ⟨Or.inr hj, rfl, by show j < 61; omega⟩
theorem g_iaload (hF : jOk F X own cc nl rt dp) (hd : decode cc pc = .ok (.iaload, 1)) {r : Nat × Nat} {z : Int} (hr : jrr r) {n : Nat} (hn : rlen r = n) (hz : 0 ≤ z ∧ z < n) (k : jG F X m (pc + 1) lv (vI (m (cid r) z) :: st)) : jG F X m pc lv (vI z :: .inr (.inl r) :: st) := by
  obtain ⟨h1, h2, h3⟩ := jrr_ir hr
  have h4 := aln_le (cid r)
  rw [h2, hn] at h4
  intro ls H locs hl hP hS
  have he : (wl X m)[cid r]? = some (xa X (cid r), .inl (xc X 0, n, .inl (jrow m (cid r)))) := by rw [wl_get X m h3, jcell_ir h1, h2, hn]
  refine va_iald hF.x hF.b hF.K hP (cid r) 0 he rfl (ji_in hz.1 hz.2 h4) hd ?_
  rw [jrow_at m (cid r) hz.1 (by omega)]
  exact k ls H locs hl hP hS
theorem g_iastore (hF : jOk F X own cc nl rt dp) (hd : decode cc pc = .ok (.iastore, 1)) {r : Nat × Nat} {z y : Int} (hr : jrr r) {n : Nat} (hn : rlen r = n) (hz : 0 ≤ z ∧ z < n) (k : jG F X (mset m (cid r) z y) (pc + 1) lv st) : jG F X m pc lv (vI y :: vI z :: .inr (.inl r) :: st) := by
  obtain ⟨h1, h2, h3⟩ := jrr_ir hr
  have h4 := aln_le (cid r)
  rw [h2, hn] at h4
  intro ls H locs hl hP hS
  have he : (wl X m)[cid r]? = some (xa X (cid r), .inl (xc X 0, n, .inl (jrow m (cid r)))) := by rw [wl_get X m h3, jcell_ir h1, h2, hn]
  refine va_iast hF.x hF.b hF.K hP hF.D hS (cid r) 0 he rfl (ji_in hz.1 hz.2 h4) hd (fun H1 locs1 a1 _ a3 => ?_)
  rw [jrow_set m (cid r) y hz.1 (by omega), wl_set (X := X) (m := m) (m' := mset m (cid r) z y) h3 (by rw [jcell_ir h1, h2, hn]) (fun i hi => (mset_ne hi).symm)] at a1
  exact k ls H1 locs1 hl a1 a3
theorem jcell_43 {X : jX} {m : jM} : jcell X m 43 = .inl (xc X 1, 257, .inl (jrow m 43)) := rfl
theorem g_baload (hF : jOk F X own cc nl rt dp) (hd : decode cc pc = .ok (.baload, 1)) {z : Int} (hz : 0 ≤ z ∧ z < 257) (k : jG F X m (pc + 1) lv (vI (m 43 z) :: st)) : jG F X m pc lv (vI z :: vR 2 43 :: st) := by
  intro ls H locs hl hP hS
  have he : (wl X m)[43]? = some (xa X 43, .inl (xc X 1, 257, .inl (jrow m 43))) := by rw [wl_get X m (by decide), jcell_43]
  refine va_zald hF.x hF.b hF.K hP 43 1 he rfl (ji_in hz.1 hz.2 (by decide)) hd ?_
  rw [jrow_at m 43 hz.1 (by omega)]
  exact k ls H locs hl hP hS
theorem g_bastore (hF : jOk F X own cc nl rt dp) (hd : decode cc pc = .ok (.bastore, 1)) {z y : Int} (hz : 0 ≤ z ∧ z < 257) (hy : y = 0 ∨ y = 1) (k : jG F X (mset m 43 z y) (pc + 1) lv st) : jG F X m pc lv (vI y :: vI z :: vR 2 43 :: st) := by
  intro ls H locs hl hP hS
  have he : (wl X m)[43]? = some (xa X 43, .inl (xc X 1, 257, .inl (jrow m 43))) := by rw [wl_get X m (by decide), jcell_43]
  refine va_zast hF.x hF.b hF.K hP hF.D hS 43 1 he rfl (ji_in hz.1 hz.2 (by decide)) hd (fun H1 locs1 a1 _ a3 => ?_)
  have hnar : vp_nar .boolean (Int32.ofInt y) = Int32.ofInt y := by rcases hy with e | e <;> subst e <;> rfl
  rw [hnar, jrow_set m 43 y hz.1 (by omega), wl_set (X := X) (m := m) (m' := mset m 43 z y) (by decide) jcell_43.symm (fun i hi => (mset_ne hi).symm)] at a1
  exact k ls H1 locs1 hl a1 a3
theorem g_aaload_39 (hF : jOk F X own cc nl rt dp) (hd : decode cc pc = .ok (.aaload, 1)) {z : Int} {t : Nat} (hz : z = (t : Int)) (ht : t < 8) (k : jG F X m (pc + 1) lv (vR 1 t :: st)) : jG F X m pc lv (vI z :: vR 2 39 :: st) := by
  subst hz
  intro ls H locs hl hP hS
  have he : (wl X m)[39]? = some (xa X 39, .inl (xc X 2, 8, .inr (.inr (.inr (.inr (fun k => some (xa X (19 + k)))))))) := by rw [wl_get X m (by decide)]; rfl
  refine va_aldq hF.x hF.b hF.K hP 39 2 he rfl (ji_in (by omega) (by omega) (by decide)) hd ?_
  rw [ji_clamp (by omega) (by omega), Int.toNat_natCast]
  exact k ls H locs hl hP hS
theorem g_aaload_46 (hF : jOk F X own cc nl rt dp) (hd : decode cc pc = .ok (.aaload, 1)) {z : Int} {t : Nat} (hz : z = (t : Int)) (ht : t < 8) (k : jG F X m (pc + 1) lv (vR 1 (8 + t) :: st)) : jG F X m pc lv (vI z :: vR 2 46 :: st) := by
  subst hz
  intro ls H locs hl hP hS
  have he : (wl X m)[46]? = some (xa X 46, .inl (xc X 2, 8, .inr (.inr (.inr (.inr (fun k => some (xa X (27 + k)))))))) := by rw [wl_get X m (by decide)]; rfl
  refine va_aldq hF.x hF.b hF.K hP 46 2 he rfl (ji_in (by omega) (by omega) (by decide)) hd ?_
  rw [ji_clamp (by omega) (by omega), Int.toNat_natCast]
  have k2 := k ls H locs hl hP hS
  rw [List.map_cons, show dn X (vR 1 (8 + t)) = .ref (xa X (19 + (8 + t))) from rfl, show 19 + (8 + t) = 27 + t by omega] at k2
  exact k2
/-- dup2 of a reference and an int -/
theorem g_dup2 (hF : jOk F X own cc nl rt dp) (hd : decode cc pc = .ok (.dup2, 1)) {v u : jV} (hv : jcat2 v = false) (hu : jcat2 u = false) (k : jG F X m (pc + 1) lv (v :: u :: v :: u :: st)) : jG F X m pc lv (v :: u :: st) := by
  intro ls H locs hl hP hS
  exact lv_dup2_11 hF.x hF.b hd (by rcases v with z | r | z | u | u <;> first | rfl | cases hv) (by rcases u with z | r | z | u | u <;> first | rfl | cases hu) (k ls H locs hl hP hS)
theorem g_laload (hF : jOk F X own cc nl rt dp) (hd : decode cc pc = .ok (.laload, 1)) (k : jG F X m (pc + 1) lv (vL (m 59 0) :: st)) : jG F X m pc lv (vI 0 :: vR 2 59 :: st) := by
  intro ls H locs hl hP hS
  have he : (wl X m)[59]? = some (xa X 59, .inl (xc X 3, 1, .inr (.inl (fun k => Int64.ofInt (m 59 (k : Int)))))) := by rw [wl_get X m (by decide)]; rfl
  exact va_lald hF.x hF.b hF.K hP 59 3 he rfl (ji_in (a := 0) (by decide) (by decide) (by decide)) hd (k ls H locs hl hP hS)
theorem g_lastore (hF : jOk F X own cc nl rt dp) (hd : decode cc pc = .ok (.lastore, 1)) {y : Int} (k : jG F X (mset m 59 0 y) (pc + 1) lv st) : jG F X m pc lv (vL y :: vI 0 :: vR 2 59 :: st) := by
  intro ls H locs hl hP hS
  have he : (wl X m)[59]? = some (xa X 59, .inl (xc X 3, 1, .inr (.inl (fun k => Int64.ofInt (m 59 (k : Int)))))) := by rw [wl_get X m (by decide)]; rfl
  refine va_last hF.x hF.b hF.K hP hF.D hS 59 3 he rfl (ji_in (a := 0) (by decide) (by decide) (by decide)) hd (fun H1 locs1 a1 _ a3 => ?_)
  have e : vp_updL (fun k : Nat => Int64.ofInt (m 59 (k : Int))) (Int32.ofInt 0).toNatClampNeg (Int64.ofInt y) = fun k : Nat => Int64.ofInt (mset m 59 0 y 59 (k : Int)) := by
    funext k
    unfold vp_updL mset
    by_cases hk : k = 0
    · subst hk; rfl
    · rw [if_neg (by rw [ji_clamp (by decide) (by decide)]; exact hk), if_neg (by omega)]
  have a2 := wl_set (X := X) (m := m) (m' := mset m 59 0 y) (j := 59) (e := .inl (xc X 3, 1, .inr (.inl (fun k : Nat => Int64.ofInt (mset m 59 0 y 59 (k : Int)))))) (by decide) rfl (fun i hi => (mset_ne hi).symm)
  rw [e, a2] at a1
  exact k ls H1 locs1 hl a1 a3
end JH

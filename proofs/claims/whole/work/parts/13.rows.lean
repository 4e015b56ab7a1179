/-! the heap's rows once more, told for tables and for the other cells, their words reduced -/
section JR
variable {F : jF} {X : jX} {m : jM} {pc : Nat} {lv : List (Nat × jV)} {st : List jV} {own : String} {cc : ByteArray} {nl dp : Nat} {rt : Option FieldType}
theorem g_told (hF : jOk F X own cc nl rt dp) {idx t : Nat} (hl : jlink own idx 2 0) (hd : decode cc pc = .ok (.getfield idx, 3)) (ht : t < 19) (kk : jG F X m (pc + 3) lv (vR 0 t :: st)) : jG F X m pc lv (vR 1 t :: st) :=
  g_get hF hl hd (r := (1, t)) ht rfl rfl kk
theorem g_tcnt (hF : jOk F X own cc nl rt dp) {idx t : Nat} (hl : jlink own idx 2 1) (hd : decode cc pc = .ok (.getfield idx, 3)) (ht : t < 19) (kk : jG F X m (pc + 3) lv (vI (m (19 + t) 0) :: st)) : jG F X m pc lv (vR 1 t :: st) :=
  g_get hF hl hd (r := (1, t)) ht rfl rfl kk
theorem g_tcntP (hF : jOk F X own cc nl rt dp) {idx t : Nat} {y : Int} (hl : jlinkP own idx 2 1 .int) (hd : decode cc pc = .ok (.putfield idx, 3)) (ht : t < 19) (kk : jG F X (mset m (19 + t) 0 y) (pc + 3) lv st) : jG F X m pc lv (vI y :: vR 1 t :: st) :=
  g_put hF hl hd (r := (1, t)) ht rfl rfl (Or.inl rfl) kk
theorem g_tld (hF : jOk F X own cc nl rt dp) (hd : decode cc pc = .ok (.iaload, 1)) {t : Nat} {z : Int} (ht : t < 19) (hz : 0 ≤ z ∧ z < 257) (k : jG F X m (pc + 1) lv (vI (m t z) :: st)) : jG F X m pc lv (vI z :: vR 0 t :: st) :=
  g_iaload hF hd (r := (0, t)) ht rfl hz k
theorem g_tst (hF : jOk F X own cc nl rt dp) (hd : decode cc pc = .ok (.iastore, 1)) {t : Nat} {z y : Int} (ht : t < 19) (hz : 0 ≤ z ∧ z < 257) (k : jG F X (mset m t z y) (pc + 1) lv st) : jG F X m pc lv (vI y :: vI z :: vR 0 t :: st) :=
  g_iastore hF hd (r := (0, t)) ht rfl hz k
theorem g_getC (hF : jOk F X own cc nl rt dp) {idx ci k j : Nat} (hl : jlink own idx ci k) (hd : decode cc pc = .ok (.getfield idx, 3)) (hr : jok (2, j)) {vs : List jV} (hf : fvals m (2, j) = some (ci, vs)) {v : jV} (hv : vs[k]? = some v) (kk : jG F X m (pc + 3) lv (v :: st)) : jG F X m pc lv (vR 2 j :: st) :=
  g_get hF hl hd hr hf hv kk
theorem g_putC (hF : jOk F X own cc nl rt dp) {idx ci k j : Nat} {ty : FieldType} {z y : Int} (hl : jlinkP own idx ci k ty) (hd : decode cc pc = .ok (.putfield idx, 3)) (hr : jok (2, j)) {vs0 : List jV} (hf : fvals m (2, j) = some (ci, vs0)) (hp : fpl (2, j) k = some z) (hty : ty = .int ∨ (ty = .boolean ∧ (y = 0 ∨ y = 1))) (kk : jG F X (mset m j z y) (pc + 3) lv st) : jG F X m pc lv (vI y :: vR 2 j :: st) :=
  g_put hF hl hd hr hf hp hty kk
theorem g_ldC (hF : jOk F X own cc nl rt dp) (hd : decode cc pc = .ok (.iaload, 1)) {j n : Nat} {z : Int} (hr : jrr (2, j)) (hn : rlen (2, j) = n) (hz : 0 ≤ z ∧ z < n) (k : jG F X m (pc + 1) lv (vI (m j z) :: st)) : jG F X m pc lv (vI z :: vR 2 j :: st) :=
  g_iaload hF hd hr hn hz k
theorem g_stC (hF : jOk F X own cc nl rt dp) (hd : decode cc pc = .ok (.iastore, 1)) {j n : Nat} {z y : Int} (hr : jrr (2, j)) (hn : rlen (2, j) = n) (hz : 0 ≤ z ∧ z < n) (k : jG F X (mset m j z y) (pc + 1) lv st) : jG F X m pc lv (vI y :: vI z :: vR 2 j :: st) :=
  g_iastore hF hd hr hn hz k
end JR
theorem c_fillT (X : jX) (hX : jxok X) (t : Nat) (ht : t < 19) (v : Int) (m : jM) : Con X yJ7_fill_53178 cJ7_fill_53178 4 none 1 [vR 0 t, vI v] m (fun o m' => o = none ∧ m' = mrow m t (fun _ => v)) := c_fill X hX (0, t) ht rfl v m
theorem c_fillC (X : jX) (hX : jxok X) (j : Nat) (hj : jrr (2, j)) (hl : rlen (2, j) = 257) (v : Int) (m : jM) : Con X yJ7_fill_53178 cJ7_fill_53178 4 none 1 [vR 2 j, vI v] m (fun o m' => o = none ∧ m' = mrow m j (fun _ => v)) := c_fill X hX (2, j) hj hl v m
/-- the locals below n alone -/
def ltake (n : Nat) : List (Nat × jV) → List (Nat × jV)
  | [] => []
  | q :: l => if q.1 < n then q :: ltake n l else ltake n l
theorem mem_ltake {n : Nat} : ∀ (l : List (Nat × jV)) (q : Nat × jV), q ∈ ltake n l → q ∈ l
  | [], q, h => by cases h
  | p :: l, q, h => by
    unfold ltake at h
    by_cases e : p.1 < n
    · rw [if_pos e] at h
      rcases List.mem_cons.mp h with h1 | h1
      · rw [h1]; exact List.mem_cons_self
      · exact List.mem_cons_of_mem _ (mem_ltake l q h1)
    · rw [if_neg e] at h
      exact List.mem_cons_of_mem _ (mem_ltake l q h)
theorem g_take {F : jF} {X : jX} {m : jM} {pc : Nat} {lv : List (Nat × jV)} {st : List jV} (n : Nat) (k : jG F X m pc (ltake n lv) st) : jG F X m pc lv st := by
  intro ls H locs hl hP hS
  refine k ls H locs ⟨hl.1, hl.2.1, fun q hq => hl.2.2 q ?_⟩ hP hS
  obtain ⟨p, hp, rfl⟩ := List.mem_map.mp hq
  exact List.mem_map.mpr ⟨p, mem_ltake lv p hp, rfl⟩
theorem turnN_skip {f : Int → Int} {i : Nat} (h : f i = -2) : turnN f i = turnN f (i + 1) := by
  unfold turnN
  rw [itN_s, if_pos h]
theorem turnN_mark {m : jM} {t i : Nat} {f : Int → Int} {x k : Int} (h : ¬ f i = -2) (hx : x = f i) (hk : k = i - 1) : tset (tset m t (turnN f i)) t (fmark (tset m t (turnN f i) t) x k) = tset m t (turnN f (i + 1)) := by
  subst hx; subst hk
  rw [tset_tset, tset_at]
  congr 1
  unfold turnN
  rw [itN_s, if_neg h]
theorem turnN_0 (f : Int → Int) : turnN f 0 = fun _ => -2 := itN_0 _ _
theorem ckT_0 (f : Int → Int) (s : Int) : ckT f s 0 = 31 * s + cnt f := itN_0 _ _
theorem ckT_skip {f : Int → Int} {s : Int} {i : Nat} (h : f i = -2) : ckT f s (i + 1) = ckT f s i := by
  unfold ckT
  rw [itN_s, if_pos h]
theorem ckT_add {f : Int → Int} {s : Int} {i : Nat} (h : ¬ f i = -2) : ckT f s (i + 1) = 31 * (31 * ckT f s i + (i - 1)) + f i := by
  unfold ckT
  rw [itN_s, if_neg h]
theorem klX4_234 : Cond.constantLong RX4 234 (Int64.ofInt 7) ∈ Tb := (Tb_in (tin1 (List.mem_of_getElem? (i := 168) (by decide +kernel))) (by decide +kernel))
theorem klX2_58 : Cond.constantLong RX2 58 (Int64.ofInt 31) ∈ Tb := (Tb_in (tin1 (List.mem_of_getElem? (i := 173) (by decide +kernel))) (by decide +kernel))
theorem klX1_61 : Cond.constantLong RX1 61 (Int64.ofInt 31) ∈ Tb := (Tb_in (tin1 (List.mem_of_getElem? (i := 189) (by decide +kernel))) (by decide +kernel))
theorem kiX4_204 : Cond.constant RX4 204 (Int32.ofInt 2147483646) ∈ Tb := (Tb_in (tin4 (List.mem_of_getElem? (i := 165) (by decide +kernel))) (by decide +kernel))
theorem klX1_29 : Cond.constantLong RX1 29 (Int64.ofInt 48271) ∈ Tb := (Tb_in (tin4 (List.mem_of_getElem? (i := 170) (by decide +kernel))) (by decide +kernel))
theorem klX1_31 : Cond.constantLong RX1 31 (Int64.ofInt 2147483647) ∈ Tb := (Tb_in (tin4 (List.mem_of_getElem? (i := 171) (by decide +kernel))) (by decide +kernel))
theorem kiX5_102 : Cond.constant RX5 102 (Int32.ofInt 2147483646) ∈ Tb := (Tb_in (tin6 (List.mem_of_getElem? (i := 28) (by decide +kernel))) (by decide +kernel))
theorem klX5_103 : Cond.constantLong RX5 103 (Int64.ofInt 48271) ∈ Tb := (Tb_in (tin6 (List.mem_of_getElem? (i := 29) (by decide +kernel))) (by decide +kernel))
theorem klX5_105 : Cond.constantLong RX5 105 (Int64.ofInt 2147483647) ∈ Tb := (Tb_in (tin6 (List.mem_of_getElem? (i := 30) (by decide +kernel))) (by decide +kernel))
theorem klX5_112 : Cond.constantLong RX5 112 (Int64.ofInt 7) ∈ Tb := (Tb_in (tin6 (List.mem_of_getElem? (i := 64) (by decide +kernel))) (by decide +kernel))
theorem klX5_114 : Cond.constantLong RX5 114 (Int64.ofInt 31) ∈ Tb := (Tb_in (tin6 (List.mem_of_getElem? (i := 65) (by decide +kernel))) (by decide +kernel))
theorem wr_b {a : Int} (h : 0 ≤ a ∧ a ≤ 510) : 0 ≤ wr a ∧ wr a ≤ 255 := by unfold wr; split <;> omega

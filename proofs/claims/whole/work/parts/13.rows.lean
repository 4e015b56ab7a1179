/-! the heap's rows once more, told for tables and for the other cells, their words reduced -/
section JR
variable {F : jF} {X : jX} {m : jM} {pc : Nat} {lv : List (Nat × jV)} {st : List jV} {own : String} {cc : ByteArray} {nl dp : Nat} {rt : Option FieldType}
theorem g_told (hF : jOk F X own cc nl rt dp) {idx t : Nat} (hl : jlink own idx 2 0) (hd : decode cc pc = .ok (.getfield idx, 3)) (ht : t < 19) (kk : jG F X m (pc + 3) lv (vR 0 t :: st)) : jG F X m pc lv (vR 1 t :: st) :=
  g_get hF hl hd (r := (1, t)) ht rfl rfl kk
theorem g_tcnt (hF : jOk F X own cc nl rt dp) {idx t : Nat} (hl : jlink own idx 2 1) (hd : decode cc pc = .ok (.getfield idx, 3)) (ht : t < 19) (kk : jG F X m (pc + 3) lv (vI (m (19 + t) 0) :: st)) : jG F X m pc lv (vR 1 t :: st) :=
  g_get hF hl hd (r := (1, t)) ht rfl rfl kk
theorem g_tcntP (hF : jOk F X own cc nl rt dp) {idx t : Nat} {y : Int} (hl : jlinkP own idx 2 1 .int) (hd : decode cc pc = .ok (.putfield idx, 3)) (ht : t < 19) (kk : jG F X (mset m (19 + t) 0 y) (pc + 3) lv st) : jG F X m pc lv (vI y :: vR 1 t :: st) :=
  g_put hF hl hd (r := (1, t)) ht rfl rfl (Or.inl rfl) kk
theorem g_tld (hF : jOk F X own cc nl rt dp) (hd : decode cc pc = .ok (.iaload, 1)) {t : Nat} {z : Int} (ht : t < 19) (hz : 0 ≤ z ∧ z < 257) (k : jG F X m (pc + 1) lv (vI (m t z) :: st)) : jG F X m pc lv (vI z :: vR 0 t :: st) :=
  g_iaload hF hd (r := (0, t)) ht rfl hz k
theorem g_tst (hF : jOk F X own cc nl rt dp) (hd : decode cc pc = .ok (.iastore, 1)) {t : Nat} {z y : Int} (ht : t < 19) (hz : 0 ≤ z ∧ z < 257) (k : jG F X (mset m t z y) (pc + 1) lv st) : jG F X m pc lv (vI y :: vI z :: vR 0 t :: st) :=
  g_iastore hF hd (r := (0, t)) ht rfl hz k
theorem g_getC (hF : jOk F X own cc nl rt dp) {idx ci k j : Nat} (hl : jlink own idx ci k) (hd : decode cc pc = .ok (.getfield idx, 3)) (hr : jok (2, j)) {vs : List jV} (hf : fvals m (2, j) = some (ci, vs)) {v : jV} (hv : vs[k]? = some v) (kk : jG F X m (pc + 3) lv (v :: st)) : jG F X m pc lv (vR 2 j :: st) :=
  g_get hF hl hd hr hf hv kk
theorem g_putC (hF : jOk F X own cc nl rt dp) {idx ci k j : Nat} {ty : FieldType} {z y : Int} (hl : jlinkP own idx ci k ty) (hd : decode cc pc = .ok (.putfield idx, 3)) (hr : jok (2, j)) {vs0 : List jV} (hf : fvals m (2, j) = some (ci, vs0)) (hp : fpl (2, j) k = some z) (hty : ty = .int ∨ (ty = .boolean ∧ (y = 0 ∨ y = 1))) (kk : jG F X (mset m j z y) (pc + 3) lv st) : jG F X m pc lv (vI y :: vR 2 j :: st) :=
  g_put hF hl hd hr hf hp hty kk
theorem g_ldC (hF : jOk F X own cc nl rt dp) (hd : decode cc pc = .ok (.iaload, 1)) {j n : Nat} {z : Int} (hr : jrr (2, j)) (hn : rlen (2, j) = n) (hz : 0 ≤ z ∧ z < n) (k : jG F X m (pc + 1) lv (vI (m j z) :: st)) : jG F X m pc lv (vI z :: vR 2 j :: st) :=
  g_iaload hF hd hr hn hz k
theorem g_stC (hF : jOk F X own cc nl rt dp) (hd : decode cc pc = .ok (.iastore, 1)) {j n : Nat} {z y : Int} (hr : jrr (2, j)) (hn : rlen (2, j) = n) (hz : 0 ≤ z ∧ z < n) (k : jG F X (mset m j z y) (pc + 1) lv st) : jG F X m pc lv (vI y :: vI z :: vR 2 j :: st) :=
  g_iastore hF hd hr hn hz k
end JR
theorem c_fillT (X : jX) (hX : jxok X) (t : Nat) (ht : t < 19) (v : Int) (m : jM) : Con X yJ7_fill_53178 cJ7_fill_53178 4 none 1 [vR 0 t, vI v] m (fun o m' => o = none ∧ m' = mrow m t (fun _ => v)) := c_fill X hX (0, t) ht rfl v m
theorem c_fillC (X : jX) (hX : jxok X) (j : Nat) (hj : jrr (2, j)) (hl : rlen (2, j) = 257) (v : Int) (m : jM) : Con X yJ7_fill_53178 cJ7_fill_53178 4 none 1 [vR 2 j, vI v] m (fun o m' => o = none ∧ m' = mrow m j (fun _ => v)) := c_fill X hX (2, j) hj hl v m

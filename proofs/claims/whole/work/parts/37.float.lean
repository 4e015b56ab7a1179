/-! FLOATS: a share and a mean are never NaN -/
section FLO
abbrev shrV (a b : Int) : UInt32 := FP.fdiv (FP.i2f (Int32.ofInt a)) (FP.i2f (Int32.ofInt b))
abbrev meanV (a : Int) : UInt64 := FP.ddiv (FP.i2d (Int32.ofInt a)) 4620693217682128896
theorem rr_nan (f : FP.Core.Fmt) (s : Bool) (a b : Nat) (e : Int) : FP.Core.roundRatio f s a b e ≠ .nan := by
  unfold FP.Core.roundRatio FP.Core.roundAt FP.Core.settle FP.Core.bound
  repeat' split
  all_goals exact fun q => by cases q
theorem round_nan {f : FP.Core.Fmt} {d : FP.Core.Datum} (h : d ≠ .nan) : FP.Core.round f d ≠ .nan := by
  cases d with
  | nan => exact h
  | inf s => exact fun q => by cases q
  | fin s c q => exact rr_nan f s c 1 q
def finPos : FP.Core.Datum → Bool
  | .fin _ c _ => c != 0
  | _ => false
theorem quo_nan {f : FP.Core.Fmt} {d e : FP.Core.Datum} (h : d ≠ .nan) (he : finPos e = true) : FP.Core.quotient f d e ≠ .nan := by
  cases e with
  | nan => cases he
  | inf s => cases he
  | fin t c r =>
    have hc : c ≠ 0 := by simpa [finPos] using he
    cases d with
    | nan => exact absurd rfl h
    | inf s => exact fun q => by cases q
    | fin s a q =>
      show (if c = 0 then (if a = 0 then FP.Core.Datum.nan else .inf (s != t)) else FP.Core.roundRatio f (s != t) a c (q - r)) ≠ .nan
      rw [if_neg hc]
      exact rr_nan _ _ _ _ _
theorem and31 (a : UInt32) : (a &&& 0x7fffffff).toNat = a.toNat % 2147483648 := by
  rw [UInt32.toNat_and]
  exact Nat.and_two_pow_sub_one_eq_mod a.toNat 31
theorem and63 (a : UInt64) : (a &&& 0x7fffffffffffffff).toNat = a.toNat % 9223372036854775808 := by
  rw [UInt64.toNat_and]
  exact Nat.and_two_pow_sub_one_eq_mod a.toNat 63
theorem n32_of {a : UInt32} (h : FP.Core.val32 a ≠ .nan) : vf_n32 a := by
  unfold vf_n32
  rw [UInt32.le_iff_toNat_le, and31, show (0x7f800000 : UInt32).toNat = 2139095040 from rfl]
  have hl := a.toNat_lt
  by_cases e : FP.Core.fieldE FP.Core.b32 a.toNat = FP.Core.b32.exps - 1
  · by_cases t : FP.Core.fieldT FP.Core.b32 a.toNat = 0
    · unfold FP.Core.fieldE at e
      unfold FP.Core.fieldT at t
      rw [show FP.Core.b32.tails = 8388608 from rfl, show FP.Core.b32.exps = 256 from rfl] at e
      rw [show FP.Core.b32.tails = 8388608 from rfl] at t
      omega
    · exact absurd (show FP.Core.val32 a = .nan by unfold FP.Core.val32 FP.Core.decode; rw [if_pos e, if_neg t]) h
  · unfold FP.Core.fieldE at e
    rw [show FP.Core.b32.tails = 8388608 from rfl, show FP.Core.b32.exps = 256 from rfl] at e
    omega
theorem n64_of {a : UInt64} (h : FP.Core.val64 a ≠ .nan) : vf_n64 a := by
  unfold vf_n64
  rw [UInt64.le_iff_toNat_le, and63, show (0x7ff0000000000000 : UInt64).toNat = 9218868437227405312 from rfl]
  have hl := a.toNat_lt
  by_cases e : FP.Core.fieldE FP.Core.b64 a.toNat = FP.Core.b64.exps - 1
  · by_cases t : FP.Core.fieldT FP.Core.b64 a.toNat = 0
    · unfold FP.Core.fieldE at e
      unfold FP.Core.fieldT at t
      rw [show FP.Core.b64.tails = 4503599627370496 from rfl, show FP.Core.b64.exps = 2048 from rfl] at e
      rw [show FP.Core.b64.tails = 4503599627370496 from rfl] at t
      omega
    · exact absurd (show FP.Core.val64 a = .nan by unfold FP.Core.val64 FP.Core.decode; rw [if_pos e, if_neg t]) h
  · unfold FP.Core.fieldE at e
    rw [show FP.Core.b64.tails = 4503599627370496 from rfl, show FP.Core.b64.exps = 2048 from rfl] at e
    omega
theorem i2f_nan (a : Int32) : FP.Core.val32 (FP.i2f a) ≠ .nan := by
  show FP.Core.val32 (FP.Core.i2f a) ≠ .nan
  rw [FP.Core.val32_i2f]
  exact round_nan (fun q => by cases q)
theorem i2d_nan (a : Int32) : FP.Core.val64 (FP.i2d a) ≠ .nan := by
  show FP.Core.val64 (FP.Core.i2d a) ≠ .nan
  rw [FP.Core.val64_i2d]
  exact round_nan (fun q => by cases q)
theorem small_fin : ((List.range' 1 257).all (fun n => finPos (FP.Core.val32 (FP.i2f (Int32.ofInt (n : Nat)))))) = true := by decide +kernel
theorem shr_nan {a b : Int} (hb : 1 ≤ b ∧ b ≤ 257) : FP.Core.val32 (shrV a b) ≠ .nan := by
  show FP.Core.val32 (FP.Core.fdiv (FP.i2f (Int32.ofInt a)) (FP.i2f (Int32.ofInt b))) ≠ .nan
  rw [FP.Core.val32_fdiv]
  refine quo_nan (i2f_nan _) ?_
  have h := List.all_eq_true.mp small_fin b.toNat (List.mem_range'_1.mpr ⟨by omega, by omega⟩)
  rw [show ((b.toNat : Nat) : Int) = b by omega] at h
  exact h
theorem shr_n {a b : Int} (hb : 1 ≤ b ∧ b ≤ 257) : vf_n32 (shrV a b) := n32_of (shr_nan hb)
theorem mean_nan (a : Int) : FP.Core.val64 (meanV a) ≠ .nan := by
  show FP.Core.val64 (FP.Core.ddiv (FP.i2d (Int32.ofInt a)) 4620693217682128896) ≠ .nan
  rw [FP.Core.val64_ddiv]
  exact quo_nan (i2d_nan _) (by decide +kernel)
theorem mean_n (a : Int) : vf_n64 (meanV a) := n64_of (mean_nan a)
theorem f2d_nan {a : UInt32} (h : FP.Core.val32 a ≠ .nan) : FP.Core.val64 (FP.f2d a) ≠ .nan := by
  have e : FP.Core.fIsNaN a = false := by
    cases q : FP.Core.fIsNaN a
    · rfl
    · exact absurd ((FP.Core.fIsNaN_iff a).mp q) h
  show FP.Core.val64 (if FP.Core.fIsNaN a then FP.nanF2D a else FP.Core.f2d a) ≠ .nan
  rw [e, if_neg (by decide), FP.Core.val64_f2d]
  exact round_nan h
theorem f2d_n {a : UInt32} (h : FP.Core.val32 a ≠ .nan) : vf_n64 (FP.f2d a) := n64_of (f2d_nan h)
theorem dcmp_eq {a : UInt64} (h : FP.Core.val64 a ≠ .nan) : FP.dcmp a a = some .eq := FP.Core.dcmp_self h
end FLO
section JFL
variable {F : jF} {X : jX} {m : jM} {pc : Nat} {lv : List (Nat × jV)} {st : List jV} {own : String} {cc : ByteArray} {nl dp : Nat} {rt : Option FieldType}
theorem g_i2f (hF : jOk F X own cc nl rt dp) {a : Int} (hd : decode cc pc = .ok (.i2f, 1)) (k : jG F X m (pc + 1) lv (vF (FP.i2f (Int32.ofInt a)) :: st)) : jG F X m pc lv (vI a :: st) := by
  intro ls H locs hl hP hS
  exact lv_i2f hF.x hF.b hd (k ls H locs hl hP hS)
theorem g_i2d (hF : jOk F X own cc nl rt dp) {a : Int} (hd : decode cc pc = .ok (.i2d, 1)) (k : jG F X m (pc + 1) lv (vD (FP.i2d (Int32.ofInt a)) :: st)) : jG F X m pc lv (vI a :: st) := by
  intro ls H locs hl hP hS
  exact lv_i2d hF.x hF.b hd (k ls H locs hl hP hS)
theorem g_fdiv (hF : jOk F X own cc nl rt dp) {x y : UInt32} (hd : decode cc pc = .ok (.fdiv, 1)) (hn : vf_n32 (FP.fdiv x y)) (k : jG F X m (pc + 1) lv (vF (FP.fdiv x y) :: st)) : jG F X m pc lv (vF y :: vF x :: st) := by
  intro ls H locs hl hP hS
  exact lv_fdiv hF.x hF.b hd hn (k ls H locs hl hP hS)
theorem g_ddiv (hF : jOk F X own cc nl rt dp) {x y : UInt64} (hd : decode cc pc = .ok (.ddiv, 1)) (hn : vf_n64 (FP.ddiv x y)) (k : jG F X m (pc + 1) lv (vD (FP.ddiv x y) :: st)) : jG F X m pc lv (vD y :: vD x :: st) := by
  intro ls H locs hl hP hS
  exact lv_ddiv hF.x hF.b hd hn (k ls H locs hl hP hS)
theorem g_f2d (hF : jOk F X own cc nl rt dp) {x : UInt32} (hd : decode cc pc = .ok (.f2d, 1)) (hn : vf_n64 (FP.f2d x)) (k : jG F X m (pc + 1) lv (vD (FP.f2d x) :: st)) : jG F X m pc lv (vF x :: st) := by
  intro ls H locs hl hP hS
  exact lv_f2d hF.x hF.b hd hn (k ls H locs hl hP hS)
theorem g_ldc2d (hF : jOk F X own cc nl rt dp) {index : Nat} {v : UInt64} (hc : Cond.constantDouble own index v ∈ Tb) (hd : decode cc pc = .ok (.ldc2_w index, 3)) (k : jG F X m (pc + 3) lv (vD v :: st)) : jG F X m pc lv st := by
  intro ls H locs hl hP hS
  exact lv_ldc2d hF.x hF.b hF.o (hF.ts _ hc) hd (k ls H locs hl hP hS)
end JFL

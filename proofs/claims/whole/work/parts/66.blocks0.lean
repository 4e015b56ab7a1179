/-! THE LAW'S BLOCKS: one for each number of call -/
abbrev lw0 (i : Nat) : List (Nat × jV) := [(0, vR 2 61), (1, vR 2 38), (2, vR 2 51), (3, vR 2 59), (4, vR 2 60), (5, vI i)]
theorem jcmp_self (a : Int) : jcmp a a = 0 := by
  unfold jcmp
  rw [if_neg (Int.lt_irrefl a), if_pos rfl]
theorem g_fup {F : jF} {X : jX} {m : jM} {pc : Nat} {lv : List (Nat × jV)} {st : List jV} (a b : Nat) (h1 : fk F ≤ a) (h2 : fn F ≤ b) (k : jG (fup F a b) X m pc lv st) : jG F X m pc lv st := fun ls H locs hl hP hS => W.widen h1 h2 (k ls H locs hl hP hS)
theorem g_lcmpE {F : jF} {X : jX} {m : jM} {pc : Nat} {lv : List (Nat × jV)} {st : List jV} {own : String} {cc : ByteArray} {nl dp : Nat} {rt : Option FieldType} (hF : jOk F X own cc nl rt dp) {a b : Int} (hd : decode cc pc = .ok (.lcmp, 1)) (h : a = b) (k : jG F X m (pc + 1) lv (vI 0 :: st)) : jG F X m pc lv (vL b :: vL a :: st) := by
  subst h
  intro ls H locs hl hP hS
  refine W.lcmp hF.x hF.b hd ?_
  have e : lg_cmp (Int64.ofInt a) (Int64.ofInt a) = Int32.ofInt 0 := by
    unfold lg_cmp
    rw [if_neg (fun q => Int.lt_irrefl _ (Int64.lt_iff_toInt_lt.mp q)), if_pos rfl]
    rfl
  rw [e]
  exact k ls H locs hl hP hS
theorem lastCount_jr (K : Int → Int) {w : Nat} (hw : w ≤ 60) : jr (lastCount K w) := by
  have h := sumN_bound (f := fun i => bI (isL K w i)) (a := 0) (b := 1) w (fun z _ _ => by have := bI_c (isL K w z); show 0 ≤ bI (isL K w z) ∧ bI (isL K w z) ≤ 1; omega)
  unfold lastCount
  constructor <;> omega

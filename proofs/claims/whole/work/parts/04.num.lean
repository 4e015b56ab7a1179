/-! NUMBERS: an Int32 (Int64) by its integer -/
abbrev jr (a : Int) : Prop := -2147483648 ≤ a ∧ a < 2147483648
abbrev jrl (a : Int) : Prop := -9223372036854775808 ≤ a ∧ a < 9223372036854775808
theorem ji_toInt {a : Int} (h : jr a) : (Int32.ofInt a).toInt = a := Int32.toInt_ofInt_of_le (by have := h.1; omega) (by have := h.2; omega)
theorem jl_toInt {a : Int} (h : jrl a) : (Int64.ofInt a).toInt = a := Int64.toInt_ofInt_of_le (by have := h.1; omega) (by have := h.2; omega)
theorem ji_lt {a b : Int} (ha : jr a) (hb : jr b) : Int32.ofInt a < Int32.ofInt b ↔ a < b := by rw [Int32.lt_iff_toInt_lt, ji_toInt ha, ji_toInt hb]
theorem ji_le {a b : Int} (ha : jr a) (hb : jr b) : Int32.ofInt a ≤ Int32.ofInt b ↔ a ≤ b := by rw [Int32.le_iff_toInt_le, ji_toInt ha, ji_toInt hb]
theorem ji_eq {a b : Int} (ha : jr a) (hb : jr b) : Int32.ofInt a = Int32.ofInt b ↔ a = b := by rw [← Int32.toInt_inj, ji_toInt ha, ji_toInt hb]
theorem jl_lt {a b : Int} (ha : jrl a) (hb : jrl b) : Int64.ofInt a < Int64.ofInt b ↔ a < b := by rw [Int64.lt_iff_toInt_lt, jl_toInt ha, jl_toInt hb]
theorem jl_eq {a b : Int} (ha : jrl a) (hb : jrl b) : Int64.ofInt a = Int64.ofInt b ↔ a = b := by rw [← Int64.toInt_inj, jl_toInt ha, jl_toInt hb]
theorem ji_0 : (0 : Int32) = Int32.ofInt 0 := rfl
theorem jl_0 : (0 : Int64) = Int64.ofInt 0 := rfl
theorem jr_0 : jr 0 := by decide
theorem jrl_0 : jrl 0 := by decide
theorem ji_clamp {a : Int} (h0 : 0 ≤ a) (h : a < 2147483648) : (Int32.ofInt a).toNatClampNeg = a.toNat := Int32.toNatClampNeg_ofInt_of_le (by omega) (by omega)
theorem ji_in {a : Int} {n : Nat} (h0 : 0 ≤ a) (h : a < n) (hn : n ≤ 2147483647) : vp_in (Int32.ofInt a) n := by
  intro q
  have hr : jr a := ⟨by omega, by omega⟩
  rcases q with q | q
  · rw [ji_0, ji_lt hr jr_0] at q
    omega
  · rw [ji_clamp h0 hr.2] at q
    omega
theorem ji_long {a : Int} (h : jr a) : (Int32.ofInt a).toInt64 = Int64.ofInt a := by
  rw [← Int64.ofInt_int32ToInt, ji_toInt h]
theorem ji_rem {a b : Int} (ha : jr a) (hb : 0 < b) (hb2 : b < 2147483648) : Int32.ofInt a - Int32.ofInt a / Int32.ofInt b * Int32.ofInt b = Int32.ofInt (a.tmod b) := by
  have h1 : Int32.ofInt (a.tdiv b) = Int32.ofInt a / Int32.ofInt b := by
    refine Int32.ofInt_tdiv ?_ ?_ ?_ ?_
    · exact ha.1
    · have := ha.2
      show a ≤ 2147483647
      omega
    · show -2147483648 ≤ b
      omega
    · show b ≤ 2147483647
      omega
  rw [← h1, ← Int32.ofInt_mul, ← Int32.ofInt_sub]
  have h2 := Int.tmod_add_mul_tdiv a b
  have h3 : b * a.tdiv b = a.tdiv b * b := Int.mul_comm _ _
  exact congrArg Int32.ofInt (by omega)
theorem jl_div {a b : Int} (ha : jrl a) (hb : 0 < b) (hb2 : b < 9223372036854775808) : Int64.ofInt a / Int64.ofInt b = Int64.ofInt (a.tdiv b) := by
  refine (Int64.ofInt_tdiv ?_ ?_ ?_ ?_).symm
  · exact ha.1
  · have := ha.2
    show a ≤ 9223372036854775807
    omega
  · show -9223372036854775808 ≤ b
    omega
  · show b ≤ 9223372036854775807
    omega
theorem jl_rem {a b : Int} (ha : jrl a) (hb : 0 < b) (hb2 : b < 9223372036854775808) : Int64.ofInt a - Int64.ofInt a / Int64.ofInt b * Int64.ofInt b = Int64.ofInt (a.tmod b) := by
  rw [jl_div ha hb hb2, ← Int64.ofInt_mul, ← Int64.ofInt_sub]
  have h2 := Int.tmod_add_mul_tdiv a b
  have h3 : b * a.tdiv b = a.tdiv b * b := Int.mul_comm _ _
  exact congrArg Int64.ofInt (by omega)
def jxor (a b : Int) : Int := (Int32.ofInt a ^^^ Int32.ofInt b).toInt
def jand (a b : Int) : Int := (Int32.ofInt a &&& Int32.ofInt b).toInt
def jor (a b : Int) : Int := (Int32.ofInt a ||| Int32.ofInt b).toInt
def jshr (a b : Int) : Int := (Int32.ofInt a >>> (Int32.ofInt b &&& 31)).toInt
theorem ji_bip {n : Int} (h1 : -128 ≤ n) (h2 : n ≤ 127) : (Int8.ofInt n).toInt32 = Int32.ofInt n := Int8.toInt32_ofInt h1 h2
theorem ji_sip {n : Int} (h1 : -32768 ≤ n) (h2 : n ≤ 32767) : (Int16.ofInt n).toInt32 = Int32.ofInt n := Int16.toInt32_ofInt h1 h2
/-- cmp of longs -/
def jcmp (a b : Int) : Int := if a < b then -1 else if a = b then 0 else 1

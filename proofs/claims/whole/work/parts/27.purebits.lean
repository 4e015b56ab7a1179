/-! PURE WORDS: the last bit, halving; merging, working out anew; powers; tallies -/
theorem jand_1 {a : Int} (h0 : 0 ≤ a) (h1 : a < 2147483648) : jand a 1 = a % 2 := by
  obtain ⟨n, rfl⟩ := Int.eq_ofNat_of_zero_le h0
  have e : Int32.ofInt (n : Int) &&& Int32.ofInt 1 = Int32.ofInt ((n % 2 : Nat) : Int) := by
    apply Int32.toBitVec_inj.mp
    rw [Int32.toBitVec_and]
    show BitVec.ofInt 32 (n : Int) &&& BitVec.ofInt 32 1 = BitVec.ofInt 32 ((n % 2 : Nat) : Int)
    rw [BitVec.ofInt_natCast, BitVec.ofInt_natCast]
    apply BitVec.eq_of_toNat_eq
    rw [BitVec.toNat_and, BitVec.toNat_ofNat, BitVec.toNat_ofNat, show (BitVec.ofInt 32 1).toNat = 1 from rfl, Nat.and_one_is_mod]
    omega
  unfold jand
  rw [e, ji_toInt ⟨by omega, by omega⟩]
  omega
theorem jshr_1 {a : Int} (h0 : 0 ≤ a) (h1 : a < 2147483648) : jshr a 1 = a / 2 := by
  unfold jshr
  rw [show Int32.ofInt 1 &&& 31 = 1 from by decide]
  show ((Int32.ofInt a >>> (1 : Int32)).toBitVec).toInt = a / 2
  rw [Int32.toBitVec_shiftRight, BitVec.toInt_sshiftRight', show ((1 : Int32).toBitVec.smod 32).toNat = 1 from by decide, show (Int32.ofInt a).toBitVec.toInt = a from ji_toInt ⟨by omega, h1⟩, Int.shiftRight_eq_div_pow]
  rfl
noncomputable def mult (f : Int → Int) (v : Int) : Int := sumN (fun i => if f i = v then 1 else 0) 257
theorem mult_b (f : Int → Int) (v : Int) (n : Nat) : 0 ≤ sumN (fun i => if f i = v then 1 else 0) n ∧ sumN (fun i => if f i = v then 1 else 0) n ≤ n := by
  have h := sumN_bound (f := fun i => if f i = v then 1 else 0) (a := 0) (b := 1) n (fun z _ _ => by show 0 ≤ (if f z = v then (1 : Int) else 0) ∧ (if f z = v then (1 : Int) else 0) ≤ 1; split <;> omega)
  omega
noncomputable def kindsV (f : Int → Int) : Int := sumN (fun z => if 0 < mult f (z - 1) then 1 else 0) 257
def eqV (f g : Int → Int) : Prop := ∀ z : Int, 0 ≤ z → z < 257 → mult f (z - 1) = mult g (z - 1)
theorem mult_congr {f g : Int → Int} (h : eqR f g) (v : Int) : mult f v = mult g v := sumN_congr 257 (fun z h0 h1 => by rw [h z h0 h1])
theorem kindsV_congr {f g : Int → Int} (h : eqR f g) : kindsV f = kindsV g := sumN_congr 257 (fun z h0 h1 => by rw [mult_congr h])
theorem kindsV_b (f : Int → Int) : 0 ≤ kindsV f ∧ kindsV f ≤ 257 := by
  have h := sumN_bound (f := fun z => if 0 < mult f (z - 1) then 1 else 0) (a := 0) (b := 1) 257 (fun z _ _ => by show 0 ≤ (if 0 < mult f (z - 1) then (1 : Int) else 0) ∧ (if 0 < mult f (z - 1) then (1 : Int) else 0) ≤ 1; split <;> omega)
  unfold kindsV
  omega
def doubledV (h : Int) : Int := if h < 0 then h else if h = 0 then -2 else wr (2 * h)
def mergeV (h v how : Int) : Int := if h < 0 then v else if how = 43 then wr (h + v) else if how = 62 then (if h < v then v else h) else -2
def computeV (h k how : Int) : Int := if how = 105 then (if h < 0 then 0 else wr (h + 1)) else if how = 100 then (if h ≤ 0 then -2 else h - 1) else if how = 102 then (if h < 0 then mx0 k else h) else doubledV h
/-- a map behind another one -/
def comp (h g : Int → Int) : Int → Int := fun z => if g z = -2 then -2 else tat h (g z)
theorem comp_assoc (h k g : Int → Int) : comp (comp h k) g = comp h (comp k g) := by
  funext z
  unfold comp
  by_cases e : g z = -2
  · rw [if_pos e, if_pos (by rw [if_pos e])]
  · rw [if_neg e, if_neg e]
    unfold tat
    by_cases n : -1 ≤ g z ∧ g z ≤ 255
    · rw [if_pos n, if_pos n]
    · rw [if_neg n, if_neg n, if_pos rfl]
theorem comp_ok {h g : Int → Int} (hh : rowok h) : rowok (comp h g) := by
  intro z h0 h1
  unfold comp
  by_cases e : g z = -2
  · rw [if_pos e]; omega
  · rw [if_neg e]; exact tat_b hh _
/-- g, with h behind it n times -/
noncomputable def powN (h g : Int → Int) (n : Nat) : Int → Int := itN (fun _ q => comp h q) g n
theorem powN_0 (h g : Int → Int) : powN h g 0 = g := itN_0 _ _
theorem powN_s (h g : Int → Int) (n : Nat) : powN h g (n + 1) = comp h (powN h g n) := itN_s _ _ _
theorem powN_s' (h g : Int → Int) : ∀ n : Nat, powN h g (n + 1) = powN h (comp h g) n
  | 0 => by rw [powN_s, powN_0, powN_0]
  | n + 1 => by rw [powN_s, powN_s' h g n, powN_s]
theorem powN_2 (h : Int → Int) : ∀ (n : Nat) (g : Int → Int), powN (comp h h) g n = powN h g (2 * n)
  | 0, g => by rw [powN_0, Nat.mul_zero, powN_0]
  | n + 1, g => by
    rw [powN_s, powN_2 h n g, comp_assoc, show 2 * (n + 1) = 2 * n + 1 + 1 by omega, powN_s, powN_s]
def selv (f : Int → Int) : Int → Int := fun z => if f z = -2 then -2 else z - 1
theorem selv_ok (f : Int → Int) : rowok (selv f) := by
  intro z h0 h1
  unfold selv
  split <;> omega
theorem comp_congr {h h2 g g2 : Int → Int} (hh : eqR h h2) (hg : eqR g g2) (hr : rowok g) : eqR (comp h g) (comp h2 g2) := by
  intro z h0 h1
  unfold comp
  rw [← hg z h0 h1]
  by_cases e : g z = -2
  · rw [if_pos e, if_pos e]
  · rw [if_neg e, if_neg e]
    have hb := hr z h0 h1
    unfold tat
    rw [if_pos ⟨by omega, by omega⟩, if_pos ⟨by omega, by omega⟩]
    exact hh _ (by omega) (by omega)
theorem powN_ok {h g : Int → Int} (hh : rowok h) (hg : rowok g) : ∀ n : Nat, rowok (powN h g n)
  | 0 => by rw [powN_0]; exact hg
  | n + 1 => by rw [powN_s]; exact comp_ok hh
theorem powN_congr {h h2 g g2 : Int → Int} (hh : eqR h h2) (hg : eqR g g2) (hr : rowok g) (hrh : rowok h) : ∀ n : Nat, eqR (powN h g n) (powN h2 g2 n)
  | 0 => by rw [powN_0, powN_0]; exact hg
  | n + 1 => by rw [powN_s, powN_s]; exact comp_congr hh (powN_congr hh hg hr hrh n) (powN_ok hrh hr n)
theorem cnt_eqR {f g : Int → Int} (h : eqR f g) : cnt f = cnt g := cnt_congr h

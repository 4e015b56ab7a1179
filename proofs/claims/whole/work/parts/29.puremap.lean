/-! PURE WORDS: a map's values counted once each; a map turned round and back -/
theorem sumN_swap {g : Int → Int → Int} (k : Nat) : ∀ n : Nat, sumN (fun z => sumN (fun v => g v z) k) n = sumN (fun v => sumN (fun z => g v z) n) k
  | 0 => by
    rw [sumN_0, sumN_congr (g := fun _ => 0) k (fun v _ _ => sumN_0 _), sumN_zero]
  | n + 1 => by
    rw [sumN_s, sumN_swap k n, sumN_congr (f := fun v => sumN (fun z => g v z) (n + 1)) (g := fun v => sumN (fun z => g v z) n + g v n) k (fun v _ _ => sumN_s _ _), sumN_add]
theorem sumN_one {f : Int → Int} {i : Int} (h0 : 0 ≤ i) : ∀ n : Nat, i < n → (∀ z : Int, 0 ≤ z → z < n → z ≠ i → f z = 0) → sumN f n = f i
  | 0, h1, _ => absurd h1 (by omega)
  | n + 1, h1, h => by
    rw [sumN_s]
    by_cases e : i = n
    · rw [sumN_congr (g := fun _ => 0) n (fun z h2 h3 => h z h2 (by omega) (by omega)), sumN_zero, e]; omega
    · rw [sumN_one h0 n (by omega) (fun z h2 h3 h4 => h z h2 (by omega) h4), h n (by omega) (by omega) (fun q => e q.symm)]; omega
theorem sumN_ge1 {f : Int → Int} (hf : ∀ z : Int, 0 ≤ f z) {i : Int} (h0 : 0 ≤ i) : ∀ n : Nat, i < n → f i ≤ sumN f n
  | 0, h1 => absurd h1 (by omega)
  | n + 1, h1 => by
    rw [sumN_s]
    by_cases e : i = n
    · have h := sumN_mono hf 0 n (by omega)
      rw [sumN_0] at h
      rw [e]; omega
    · have h := sumN_ge1 hf h0 n (by omega)
      have := hf n
      omega
theorem sumN_ge2 {f : Int → Int} (hf : ∀ z : Int, 0 ≤ f z) {i j : Int} (h0 : 0 ≤ i) (hij : i < j) : ∀ n : Nat, j < n → f i + f j ≤ sumN f n
  | 0, h1 => absurd h1 (by omega)
  | n + 1, h1 => by
    rw [sumN_s]
    by_cases e : j = n
    · have h := sumN_ge1 hf h0 n (by omega)
      rw [e]; omega
    · have h := sumN_ge2 hf h0 hij n (by omega)
      have := hf n
      omega
theorem sumN_all0 {f : Int → Int} (hf : ∀ z : Int, 0 ≤ f z) {n : Nat} (h : sumN f n = 0) {z : Int} (h0 : 0 ≤ z) (h1 : z < n) : f z = 0 := by
  have h2 := sumN_ge1 hf h0 n h1
  have := hf z
  omega
theorem one_nn (f : Int → Int) (v : Int) : ∀ z : Int, 0 ≤ (fun i => if f i = v then (1 : Int) else 0) z := by
  intro z
  show 0 ≤ (if f z = v then (1 : Int) else 0)
  split <;> omega
theorem mult_pos {f : Int → Int} {v : Int} : 0 < mult f v ↔ ∃ z : Int, 0 ≤ z ∧ z < 257 ∧ f z = v := by
  constructor
  · intro h
    refine Classical.byContradiction (fun q => ?_)
    have e : mult f v = 0 := by
      unfold mult
      rw [sumN_congr (g := fun _ => 0) 257 (fun z h0 h1 => if_neg (fun e => q ⟨z, h0, h1, e⟩)), sumN_zero]
    omega
  · rintro ⟨z, h0, h1, e⟩
    have h := sumN_ge1 (one_nn f v) h0 257 h1
    rw [if_pos e] at h
    unfold mult
    omega
/-- every key with a value: as often as the values stand, all together -/
theorem mult_all {f : Int → Int} (hf : rowok f) : sumN (fun z => mult f (z - 1)) 257 = cnt f := by
  unfold mult cnt
  rw [sumN_swap (g := fun z i => if f z = i - 1 then 1 else 0) 257 257]
  refine sumN_congr 257 (fun z h0 h1 => ?_)
  have hb := hf z h0 h1
  by_cases e : f z = -2
  · rw [sumN_congr (g := fun _ => 0) 257 (fun i h2 h3 => if_neg (by omega)), sumN_zero]
    show 0 = if f z = -2 then (0 : Int) else 1
    rw [if_pos e]
  · rw [sumN_one (i := f z + 1) (by omega) 257 (by omega) (fun i h2 h3 h4 => if_neg (by omega)), if_pos (by omega)]
    show 1 = if f z = -2 then (0 : Int) else 1
    rw [if_neg e]
def once (f : Int → Int) : Prop := ∀ z : Int, 0 ≤ z → z < 257 → mult f (z - 1) ≤ 1
def injF (f : Int → Int) : Prop := ∀ a b : Int, 0 ≤ a → a < 257 → 0 ≤ b → b < 257 → f a = f b → f a ≠ -2 → a = b
theorem mult_ge (f : Int → Int) (v : Int) : 0 ≤ mult f v := (mult_b f v 257).1
theorem kinds_once {f : Int → Int} (hf : rowok f) : kindsV f = cnt f ↔ once f := by
  have e : cnt f = kindsV f + sumN (fun z => if mult f (z - 1) ≤ 1 then 0 else mult f (z - 1) - 1) 257 := by
    rw [← mult_all hf]
    unfold kindsV
    rw [← sumN_add]
    refine sumN_congr 257 (fun z _ _ => ?_)
    have := mult_ge f (z - 1)
    show mult f (z - 1) = (if 0 < mult f (z - 1) then 1 else 0) + if mult f (z - 1) ≤ 1 then 0 else mult f (z - 1) - 1
    split <;> split <;> omega
  constructor
  · intro h z h0 h1
    have h2 := sumN_all0 (f := fun z => if mult f (z - 1) ≤ 1 then 0 else mult f (z - 1) - 1) (fun z => by show 0 ≤ if mult f (z - 1) ≤ 1 then (0 : Int) else mult f (z - 1) - 1; split <;> omega) (n := 257) (by omega) h0 h1
    have h3 : (if mult f (z - 1) ≤ 1 then 0 else mult f (z - 1) - 1) = 0 := h2
    revert h3
    split <;> omega
  · intro h
    rw [e, sumN_congr (f := fun z => if mult f (z - 1) ≤ 1 then 0 else mult f (z - 1) - 1) (g := fun _ => 0) 257 (fun z h0 h1 => if_pos (h z h0 h1)), sumN_zero]
    omega
theorem once_inj {f : Int → Int} (hf : rowok f) (h : once f) : injF f := by
  have key : ∀ a b : Int, 0 ≤ a → a < b → b < 257 → f a = f b → f a ≠ -2 → False := by
    intro a b h0 h1 h2 e hn
    have h3 := sumN_ge2 (one_nn f (f a)) h0 h1 257 h2
    rw [if_pos rfl, if_pos e.symm] at h3
    have hb := hf a h0 (by omega)
    have h4 := h (f a + 1) (by omega) (by omega)
    rw [show f a + 1 - 1 = f a by omega] at h4
    unfold mult at h4
    omega
  intro a b a0 a1 b0 b1 e hn
  rcases Int.lt_trichotomy a b with q | q | q
  · exact (key a b a0 q b1 e hn).elim
  · exact q
  · exact (key b a b0 q a1 e.symm (by rw [← e]; exact hn)).elim
theorem turnN_s0 {f : Int → Int} {n : Nat} (h : f n = -2) : turnN f (n + 1) = turnN f n := (turnN_skip h).symm
theorem turnN_s1 {f : Int → Int} {n : Nat} (h : ¬ f n = -2) : turnN f (n + 1) = fmark (turnN f n) (f n) (n - 1) := by
  unfold turnN
  rw [itN_s, if_neg h]
theorem turnN_out {f : Int → Int} (hf : rowok f) {y : Int} : ∀ n : Nat, n ≤ 257 → (∀ z : Int, 0 ≤ z → z < n → f z ≠ y - 1) → turnN f n y = -2
  | 0, _, _ => by rw [turnN_0]
  | n + 1, hn, h => by
    have ih := turnN_out hf (y := y) n (by omega) (fun z h0 h1 => h z h0 (by omega))
    have hb := hf n (by omega) (by omega)
    by_cases e : f n = -2
    · rw [turnN_s0 e]; exact ih
    · rw [turnN_s1 e]
      unfold fmark
      rw [if_pos (by omega), if_neg (fun q => h n (by omega) (by omega) (by omega))]
      exact ih
theorem turnN_in {f : Int → Int} (hf : rowok f) (hi : injF f) : ∀ n : Nat, n ≤ 257 → ∀ z : Int, 0 ≤ z → z < n → f z ≠ -2 → turnN f n (f z + 1) = z - 1
  | 0, _, z, h0, h1, _ => absurd h1 (by omega)
  | n + 1, hn, z, h0, h1, hz => by
    have hb := hf n (by omega) (by omega)
    by_cases e : f n = -2
    · rw [turnN_s0 e]
      have : z ≠ n := fun q => hz (by rw [q]; exact e)
      exact turnN_in hf hi n (by omega) z h0 (by omega) hz
    · rw [turnN_s1 e]
      unfold fmark
      rw [if_pos (by omega)]
      by_cases ez : z = n
      · rw [ez, if_pos rfl]
      · rw [if_neg (fun q => ez (hi z n h0 (by omega) (by omega) (by omega) (by omega) hz))]
        exact turnN_in hf hi n (by omega) z h0 (by omega) hz
theorem turn_at {f : Int → Int} (hf : rowok f) (hi : injF f) {z : Int} (h0 : 0 ≤ z) (h1 : z < 257) (hz : f z ≠ -2) : turnN f 257 (f z + 1) = z - 1 := turnN_in hf hi 257 (by omega) z h0 h1 hz
theorem turn_ok (f : Int → Int) : rowok (turnN f 257) := turnN_ok 257 (by omega)
/-- what a turned map has: the key of a value -/
theorem turn_back {f : Int → Int} (hf : rowok f) (hi : injF f) {y : Int} (h : turnN f 257 y ≠ -2) : ∃ z : Int, 0 ≤ z ∧ z < 257 ∧ f z = y - 1 ∧ f z ≠ -2 ∨ y < 0 ∨ 257 ≤ y := by
  by_cases e : ∃ z : Int, 0 ≤ z ∧ z < 257 ∧ f z = y - 1
  · obtain ⟨z, h0, h1, h2⟩ := e
    have hb := hf z h0 h1
    by_cases hy : 0 ≤ y
    · exact ⟨z, Or.inl ⟨h0, h1, h2, by omega⟩⟩
    · exact ⟨0, Or.inr (Or.inl (by omega))⟩
  · exact absurd (turnN_out hf 257 (by omega) (fun z h0 h1 q => e ⟨z, h0, h1, q⟩)) h
theorem turn_inj {f : Int → Int} (hf : rowok f) (hi : injF f) : injF (turnN f 257) := by
  intro a b a0 a1 b0 b1 e hn
  obtain ⟨z, hz⟩ := turn_back hf hi hn
  obtain ⟨w, hw⟩ := turn_back hf hi (y := b) (by rw [← e]; exact hn)
  rcases hz with ⟨h0, h1, h2, h3⟩ | q | q
  · rcases hw with ⟨g0, g1, g2, g3⟩ | q | q
    · have e1 := turn_at hf hi h0 h1 h3
      have e2 := turn_at hf hi g0 g1 g3
      rw [h2, show a - 1 + 1 = a by omega] at e1
      rw [g2, show b - 1 + 1 = b by omega] at e2
      have : z = w := by omega
      subst this
      omega
    · omega
    · omega
  · omega
  · omega
theorem turn_turn {f : Int → Int} (hf : rowok f) (hi : injF f) : eqR (turnN (turnN f 257) 257) f := by
  intro z h0 h1
  by_cases e : f z = -2
  · rw [e]
    refine turnN_out (turn_ok f) 257 (by omega) (fun y y0 y1 q => ?_)
    have hn : turnN f 257 y ≠ -2 := by omega
    obtain ⟨w, hw⟩ := turn_back hf hi hn
    rcases hw with ⟨g0, g1, g2, g3⟩ | q | q
    · have e2 := turn_at hf hi g0 g1 g3
      rw [g2, show y - 1 + 1 = y by omega] at e2
      have : w = z := by omega
      subst this
      exact g3 e
    · omega
    · omega
  · have hb := hf z h0 h1
    have e1 := turn_at hf hi h0 h1 e
    have h2 := turn_at (turn_ok f) (turn_inj hf hi) (z := f z + 1) (by omega) (by omega) (by rw [e1]; omega)
    rw [e1, show z - 1 + 1 = z by omega] at h2
    omega
theorem turn_cnt {f : Int → Int} (hf : rowok f) (hi : injF f) : cnt (turnN f 257) = kindsV f := by
  unfold cnt kindsV
  refine sumN_congr 257 (fun y h0 h1 => ?_)
  show pres (turnN f 257 y) = if 0 < mult f (y - 1) then 1 else 0
  by_cases e : 0 < mult f (y - 1)
  · obtain ⟨z, g0, g1, g2⟩ := mult_pos.mp e
    have e1 := turn_at hf hi g0 g1 (by omega)
    rw [g2, show y - 1 + 1 = y by omega] at e1
    rw [if_pos e, e1]
    exact if_neg (by omega)
  · rw [if_neg e, turnN_out hf 257 (by omega) (fun z g0 g1 q => e (mult_pos.mpr ⟨z, g0, g1, q⟩))]
    rfl
theorem turn_thru {f : Int → Int} (hf : rowok f) (hi : injF f) : ∀ z : Int, 0 ≤ z → z < 257 → (if f z = -2 then -2 else tat (turnN f 257) (f z)) = if f z = -2 then -2 else z - 1 := by
  intro z h0 h1
  by_cases e : f z = -2
  · rw [if_pos e, if_pos e]
  · have hb := hf z h0 h1
    rw [if_neg e, if_neg e, tat_in ⟨by omega, by omega⟩, turn_at hf hi h0 h1 e]
theorem cnt_selv {f g : Int → Int} (h : ∀ z : Int, 0 ≤ z → z < 257 → g z = if f z = -2 then -2 else z - 1) : cnt g = cnt f := by
  unfold cnt
  refine sumN_congr 257 (fun z h0 h1 => ?_)
  show pres (g z) = pres (f z)
  rw [h z h0 h1]
  unfold pres
  by_cases e : f z = -2
  · rw [if_pos e, if_pos e]; rfl
  · rw [if_neg e, if_neg e, if_neg (by omega)]
theorem self_selv {f g : Int → Int} (h : ∀ z : Int, 0 ≤ z → z < 257 → g z = if f z = -2 then -2 else z - 1) : sumN (fun z => if g z = z - 1 then 1 else 0) 257 = cnt f := by
  unfold cnt
  refine sumN_congr 257 (fun z h0 h1 => ?_)
  show (if g z = z - 1 then 1 else 0) = pres (f z)
  rw [h z h0 h1]
  unfold pres
  by_cases e : f z = -2
  · rw [if_pos e, if_pos e, if_neg (by omega)]
  · rw [if_neg e, if_neg e, if_pos rfl]
theorem lastCount_le (K : Int → Int) (w : Nat) : lastCount K w ≤ w ∧ 0 ≤ lastCount K w := by
  have h := sumN_bound (f := fun i => bI (isL K w i)) (a := 0) (b := 1) w (fun z _ _ => by have := bI_c (isL K w z); show 0 ≤ bI (isL K w z) ∧ bI (isL K w z) ≤ 1; omega)
  unfold lastCount
  omega
theorem jxor_nat {a b : Nat} (ha : a < 256) (hb : b < 256) : jxor a b = ((a ^^^ b : Nat) : Int) := by
  have hx : a ^^^ b < 2 ^ 8 := Nat.xor_lt_two_pow ha hb
  have e : Int32.ofInt (a : Int) ^^^ Int32.ofInt (b : Int) = Int32.ofInt ((a ^^^ b : Nat) : Int) := by
    apply Int32.toBitVec_inj.mp
    rw [Int32.toBitVec_xor]
    show BitVec.ofInt 32 (a : Int) ^^^ BitVec.ofInt 32 (b : Int) = BitVec.ofInt 32 ((a ^^^ b : Nat) : Int)
    rw [BitVec.ofInt_natCast, BitVec.ofInt_natCast, BitVec.ofInt_natCast]
    apply BitVec.eq_of_toNat_eq
    rw [BitVec.toNat_xor, BitVec.toNat_ofNat, BitVec.toNat_ofNat, BitVec.toNat_ofNat, Nat.mod_eq_of_lt (by omega), Nat.mod_eq_of_lt (by omega), Nat.mod_eq_of_lt (by omega)]
  unfold jxor
  rw [e, ji_toInt ⟨by omega, by omega⟩]
theorem jxor_b {a b : Int} (ha : 0 ≤ a ∧ a ≤ 255) (hb : 0 ≤ b ∧ b ≤ 255) : 0 ≤ jxor a b ∧ jxor a b ≤ 255 := by
  obtain ⟨n, rfl⟩ := Int.eq_ofNat_of_zero_le ha.1
  obtain ⟨k, rfl⟩ := Int.eq_ofNat_of_zero_le hb.1
  have hx : n ^^^ k < 2 ^ 8 := Nat.xor_lt_two_pow (by omega) (by omega)
  rw [jxor_nat (by omega) (by omega)]
  omega
theorem mx0_b {a : Int} (h : a ≤ 255) : 0 ≤ mx0 a ∧ mx0 a ≤ 255 := by unfold mx0; split <;> omega
noncomputable def pairsN (f : Int → Int) : Int := sumN (fun z => if f z = -2 then 0 else jxor (mx0 (z - 1)) (mx0 (f z))) 257
noncomputable def keysN (f : Int → Int) : Int := sumN (fun z => if f z = -2 then 0 else mx0 (z - 1)) 257
theorem pairsN_b {f : Int → Int} (hf : rowok f) : 0 ≤ pairsN f ∧ pairsN f ≤ 65535 := by
  have h := sumN_bound (f := fun z => if f z = -2 then 0 else jxor (mx0 (z - 1)) (mx0 (f z))) (a := 0) (b := 255) 257 (fun z h0 h1 => by
    have hb := hf z h0 h1
    have hx := jxor_b (mx0_b (show z - 1 ≤ 255 by omega)) (mx0_b hb.2)
    show 0 ≤ (if f z = -2 then 0 else jxor (mx0 (z - 1)) (mx0 (f z))) ∧ (if f z = -2 then 0 else jxor (mx0 (z - 1)) (mx0 (f z))) ≤ 255
    split <;> omega)
  unfold pairsN
  omega
theorem keysN_b (f : Int → Int) : 0 ≤ keysN f ∧ keysN f ≤ 65535 := by
  have h := sumN_bound (f := fun z => if f z = -2 then 0 else mx0 (z - 1)) (a := 0) (b := 255) 257 (fun z h0 h1 => by
    have hx := mx0_b (show z - 1 ≤ 255 by omega)
    show 0 ≤ (if f z = -2 then 0 else mx0 (z - 1)) ∧ (if f z = -2 then 0 else mx0 (z - 1)) ≤ 255
    split <;> omega)
  unfold keysN
  omega
theorem pairsN_congr {f g : Int → Int} (h : eqR f g) : pairsN f = pairsN g := sumN_congr 257 (fun z h0 h1 => by rw [h z h0 h1])
theorem keysN_congr {f g : Int → Int} (h : eqR f g) : keysN f = keysN g := sumN_congr 257 (fun z h0 h1 => by rw [h z h0 h1])

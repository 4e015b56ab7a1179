/-! PURE WORDS: sums over a row, how many keys, a table's row and count written -/
theorem jok38 : jok (2, 38) := ⟨by decide, by decide⟩
theorem jok40 : jok (2, 40) := ⟨by decide, by decide⟩
theorem jok45 : jok (2, 45) := ⟨by decide, by decide⟩
theorem jok48 : jok (2, 48) := ⟨by decide, by decide⟩
theorem jok51 : jok (2, 51) := ⟨by decide, by decide⟩
theorem jrr41 : jrr (2, 41) := Or.inl rfl
theorem jrr42 : jrr (2, 42) := Or.inr (Or.inl rfl)
theorem jrr44 : jrr (2, 44) := Or.inr (Or.inr (Or.inl rfl))
theorem jrr47 : jrr (2, 47) := Or.inr (Or.inr (Or.inr (Or.inl rfl)))
theorem jrr49 : jrr (2, 49) := Or.inr (Or.inr (Or.inr (Or.inr (Or.inl rfl))))
theorem jrr50 : jrr (2, 50) := Or.inr (Or.inr (Or.inr (Or.inr (Or.inr (Or.inl rfl)))))
theorem jrr52 : jrr (2, 52) := Or.inr (Or.inr (Or.inr (Or.inr (Or.inr (Or.inr ⟨by decide, by decide⟩)))))
theorem jrr53 : jrr (2, 53) := Or.inr (Or.inr (Or.inr (Or.inr (Or.inr (Or.inr ⟨by decide, by decide⟩)))))
theorem jrr54 : jrr (2, 54) := Or.inr (Or.inr (Or.inr (Or.inr (Or.inr (Or.inr ⟨by decide, by decide⟩)))))
theorem jrr55 : jrr (2, 55) := Or.inr (Or.inr (Or.inr (Or.inr (Or.inr (Or.inr ⟨by decide, by decide⟩)))))
theorem jrr56 : jrr (2, 56) := Or.inr (Or.inr (Or.inr (Or.inr (Or.inr (Or.inr ⟨by decide, by decide⟩)))))
theorem jrr57 : jrr (2, 57) := Or.inr (Or.inr (Or.inr (Or.inr (Or.inr (Or.inr ⟨by decide, by decide⟩)))))
theorem jrr58 : jrr (2, 58) := Or.inr (Or.inr (Or.inr (Or.inr (Or.inr (Or.inr ⟨by decide, by decide⟩)))))
theorem ht16 : (16 : Nat) < 19 := by decide
theorem ht17 : (17 : Nat) < 19 := by decide
theorem ht18 : (18 : Nat) < 19 := by decide
/-- the same judgement, its memory told otherwise -/
theorem jG_m {F : jF} {X : jX} {m m' : jM} {pc : Nat} {lv : List (Nat × jV)} {st : List jV} (h : m = m') (k : jG F X m' pc lv st) : jG F X m pc lv st := by rw [h]; exact k
def sumN0 (f : Int → Int) : Nat → Int
  | 0 => 0
  | n + 1 => sumN0 f n + f (n : Int)
theorem sumN_ex : ∃ S : (Int → Int) → Nat → Int, S = sumN0 := ⟨_, rfl⟩
/-- the sum of f 0, .. f (n - 1); told by choice, so that nothing unfolds it -/
noncomputable def sumN : (Int → Int) → Nat → Int := Classical.choose sumN_ex
theorem sumN_eq : sumN = sumN0 := Classical.choose_spec sumN_ex
theorem sumN_0 (f : Int → Int) : sumN f 0 = 0 := by rw [sumN_eq]; rfl
theorem sumN_s (f : Int → Int) (n : Nat) : sumN f (n + 1) = sumN f n + f (n : Int) := by rw [sumN_eq]; rfl
theorem sumN_congr {f g : Int → Int} : ∀ (n : Nat), (∀ z : Int, 0 ≤ z → z < n → f z = g z) → sumN f n = sumN g n
  | 0, _ => by rw [sumN_0, sumN_0]
  | n + 1, h => by rw [sumN_s, sumN_s, sumN_congr n (fun z h0 h1 => h z h0 (by omega)), h n (by omega) (by omega)]
theorem sumN_bound {f : Int → Int} {a b : Int} : ∀ (n : Nat), (∀ z : Int, 0 ≤ z → z < n → a ≤ f z ∧ f z ≤ b) → a * n ≤ sumN f n ∧ sumN f n ≤ b * n
  | 0, _ => by rw [sumN_0]; simp
  | n + 1, h => by
    have h1 := sumN_bound n (fun z h0 h1 => h z h0 (by omega))
    have h2 := h n (by omega) (by omega)
    rw [sumN_s]
    have e1 : a * ((n + 1 : Nat) : Int) = a * n + a := by rw [Int.natCast_add, Int.mul_add]; omega
    have e2 : b * ((n + 1 : Nat) : Int) = b * n + b := by rw [Int.natCast_add, Int.mul_add]; omega
    omega
theorem sumN_set {f : Int → Int} {i v : Int} : ∀ (n : Nat), 0 ≤ i → i < n → sumN (fun z => if z = i then v else f z) n = sumN f n + v - f i
  | 0, h0, h1 => absurd h1 (by omega)
  | n + 1, h0, h1 => by
    rw [sumN_s, sumN_s]
    by_cases e : i = n
    · rw [if_pos e.symm, sumN_congr (g := f) n (fun z h2 h3 => if_neg (by omega)), e]
      omega
    · rw [sumN_set n h0 (by omega), if_neg (fun q => e q.symm)]
      omega
theorem sumN_zero : ∀ (n : Nat), sumN (fun _ => 0) n = 0
  | 0 => sumN_0 _
  | n + 1 => by rw [sumN_s, sumN_zero n]; rfl
theorem sumN_add {f g : Int → Int} : ∀ (n : Nat), sumN (fun z => f z + g z) n = sumN f n + sumN g n
  | 0 => by rw [sumN_0, sumN_0, sumN_0]; rfl
  | n + 1 => by rw [sumN_s, sumN_s, sumN_s, sumN_add n]; omega
def pres (x : Int) : Int := if x = -2 then 0 else 1
theorem pres_b (x : Int) : 0 ≤ pres x ∧ pres x ≤ 1 := by unfold pres; split <;> omega
noncomputable def cnt (f : Int → Int) : Int := sumN (fun z => pres (f z)) 257
theorem cnt_b (f : Int → Int) : 0 ≤ cnt f ∧ cnt f ≤ 257 := by
  have h := sumN_bound (f := fun z => pres (f z)) (a := 0) (b := 1) 257 (fun z _ _ => pres_b _)
  unfold cnt
  omega
theorem cnt_congr {f g : Int → Int} (h : ∀ z : Int, 0 ≤ z → z < 257 → f z = g z) : cnt f = cnt g := sumN_congr 257 (fun z h0 h1 => by rw [h z h0 h1])
theorem cnt_set {f : Int → Int} {i v : Int} (h0 : 0 ≤ i) (h1 : i < 257) : cnt (fun z => if z = i then v else f z) = cnt f + pres v - pres (f i) := by
  unfold cnt
  rw [← sumN_set (f := fun z => pres (f z)) 257 h0 h1]
  refine sumN_congr 257 (fun z _ _ => ?_)
  show pres (if z = i then v else f z) = if z = i then pres v else pres (f z)
  by_cases e : z = i
  · rw [if_pos e, if_pos e]
  · rw [if_neg e, if_neg e]
theorem cnt_none : cnt (fun _ => -2) = 0 := sumN_zero 257
/-- what a key has, told of its row -/
def tat (f : Int → Int) (k : Int) : Int := if -1 ≤ k ∧ k ≤ 255 then f (k + 1) else -2
theorem tat_in {f : Int → Int} {k : Int} (h : -1 ≤ k ∧ k ≤ 255) : tat f k = f (k + 1) := if_pos h
theorem tat_out {f : Int → Int} {k : Int} (h : ¬ (-1 ≤ k ∧ k ≤ 255)) : tat f k = -2 := if_neg h
theorem tat_i {f : Int → Int} {i k : Int} (hk : k = i - 1) (h0 : 0 ≤ i) (h1 : i < 257) : tat f k = f i := by
  subst hk
  rw [tat_in ⟨by omega, by omega⟩]
  exact congrArg f (by omega)
def rowok (f : Int → Int) : Prop := ∀ z : Int, 0 ≤ z → z < 257 → -2 ≤ f z ∧ f z ≤ 255
theorem tat_b {f : Int → Int} (h : rowok f) (k : Int) : -2 ≤ tat f k ∧ tat f k ≤ 255 := by
  unfold tat
  by_cases e : -1 ≤ k ∧ k ≤ 255
  · rw [if_pos e]; exact h (k + 1) (by omega) (by omega)
  · rw [if_neg e]; omega
/-- a table is well: its numbers are in range, its count is right -/
def tok (m : jM) (t : Nat) : Prop := rowok (m t) ∧ m (19 + t) 0 = cnt (m t)
/-- a table's row written anew, its count with it -/
noncomputable def tset (m : jM) (t : Nat) (f : Int → Int) : jM := fun i => if i = t then f else if i = 19 + t then (fun z => if z = 0 then cnt f else m i z) else m i
theorem tset_at (m : jM) (t : Nat) (f : Int → Int) : tset m t f t = f := if_pos rfl
theorem tset_ct (m : jM) (t : Nat) (f : Int → Int) : tset m t f (19 + t) 0 = cnt f := by
  unfold tset
  rw [if_neg (by omega), if_pos rfl]
  exact if_pos rfl
theorem tset_ne {m : jM} {t i : Nat} {f : Int → Int} (h1 : i ≠ t) (h2 : i ≠ 19 + t) : tset m t f i = m i := by
  unfold tset
  rw [if_neg h1, if_neg h2]
theorem tset_tset (m : jM) (t : Nat) (f g : Int → Int) : tset (tset m t f) t g = tset m t g := by
  funext i
  unfold tset
  by_cases h1 : i = t
  · rw [if_pos h1, if_pos h1]
  · by_cases h2 : i = 19 + t
    · rw [if_neg h1, if_pos h2, if_neg h1, if_pos h2, if_neg h1, if_pos h2]
      funext z
      by_cases hz : z = 0
      · rw [if_pos hz, if_pos hz]
      · rw [if_neg hz, if_neg hz, if_neg hz]
    · rw [if_neg h1, if_neg h2, if_neg h1, if_neg h2, if_neg h1, if_neg h2]
theorem tset_self {m : jM} {t : Nat} (h : m (19 + t) 0 = cnt (m t)) : tset m t (m t) = m := by
  funext i
  unfold tset
  by_cases h1 : i = t
  · rw [if_pos h1, h1]
  · by_cases h2 : i = 19 + t
    · rw [if_neg h1, if_pos h2]
      funext z
      by_cases hz : z = 0
      · rw [if_pos hz, hz, h2, h]
      · rw [if_neg hz]
    · rw [if_neg h1, if_neg h2]
theorem tset_tok {m : jM} {t : Nat} {f : Int → Int} (h : rowok f) : tok (tset m t f) t := ⟨by rw [tset_at]; exact h, by rw [tset_at, tset_ct]⟩
theorem tset_tok_ne {m : jM} {t u : Nat} {f : Int → Int} (hu : u < 19) (ht : t < 19) (hne : u ≠ t) (h : tok m u) : tok (tset m t f) u := by
  unfold tok
  rw [tset_ne hne (by omega), tset_ne (by omega) (by omega)]
  exact h
/-- memories that tell the same of a table's row -/
theorem tset_eqv {m : jM} {t : Nat} (ht : t < 19) {f g : Int → Int} (h : ∀ z : Int, 0 ≤ z → z < 257 → f z = g z) : jeqv (tset m t f) (tset m t g) := by
  intro j hj z h0 h1
  by_cases e1 : j = t
  · subst e1
    rw [tset_at, tset_at]
    exact h z h0 (by rw [mlen_t ht] at h1; exact h1)
  · by_cases e2 : j = 19 + t
    · subst e2
      rw [mlen_o ht] at h1
      have hz : z = 0 := by omega
      subst hz
      rw [tset_ct, tset_ct, cnt_congr h]
    · rw [tset_ne e1 e2, tset_ne e1 e2]
/-- a row with a key marked -/
def fmark (f : Int → Int) (k v : Int) : Int → Int := if -1 ≤ k ∧ k ≤ 255 then (fun z => if z = k + 1 then v else f z) else f
theorem fmark_ok {f : Int → Int} {k v : Int} (h : rowok f) (hv : -2 ≤ v ∧ v ≤ 255) : rowok (fmark f k v) := by
  intro z h0 h1
  unfold fmark
  by_cases e : -1 ≤ k ∧ k ≤ 255
  · rw [if_pos e]
    by_cases e2 : z = k + 1
    · rw [if_pos e2]; exact hv
    · rw [if_neg e2]; exact h z h0 h1
  · rw [if_neg e]; exact h z h0 h1
/-- the places below i as g tells, the others as f does -/
def upto (g f : Int → Int) (i : Int) : Int → Int := fun z => if 0 ≤ z ∧ z < i then g z else f z
theorem upto_0 (g f : Int → Int) : upto g f 0 = f := by funext z; exact if_neg (by omega)
theorem upto_at {g f : Int → Int} {i z : Int} (h : i ≤ z) : upto g f i z = f z := if_neg (by omega)
theorem upto_in {g f : Int → Int} {i z : Int} (h0 : 0 ≤ z) (h : z < i) : upto g f i z = g z := if_pos ⟨h0, h⟩
theorem upto_skip {g f : Int → Int} {i j : Int} (h : g i = f i) (hj : j = i + 1) (h0 : 0 ≤ i) : upto g f i = upto g f j := by
  subst hj
  funext z
  unfold upto
  by_cases e : z = i
  · subst e; rw [if_neg (by omega), if_pos (by omega), h]
  · by_cases e2 : 0 ≤ z ∧ z < i
    · rw [if_pos e2, if_pos (by omega)]
    · rw [if_neg e2, if_neg (by omega)]
theorem upto_mark {g f : Int → Int} {i j k : Int} {v : Int} (hv : v = g i) (hk : k = i - 1) (hj : j = i + 1) (h0 : 0 ≤ i) (h1 : i < 257) : fmark (upto g f i) k v = upto g f j := by
  subst hv; subst hk; subst hj
  funext z
  unfold fmark upto
  rw [if_pos ⟨by omega, by omega⟩]
  by_cases e : z = i
  · subst e; rw [if_pos (by omega), if_pos (by omega)]
  · rw [if_neg (by omega)]
    by_cases e2 : 0 ≤ z ∧ z < i
    · rw [if_pos e2, if_pos (by omega)]
    · rw [if_neg e2, if_neg (by omega)]
theorem upto_all {g f : Int → Int} : ∀ z : Int, 0 ≤ z → z < 257 → upto g f 257 z = g z := fun z h0 h1 => upto_in h0 h1
theorem upto_ok {g f : Int → Int} (hg : rowok g) (hf : rowok f) (i : Int) : rowok (upto g f i) := by
  intro z h0 h1
  unfold upto
  by_cases e : 0 ≤ z ∧ z < i
  · rw [if_pos e]; exact hg z h0 h1
  · rw [if_neg e]; exact hf z h0 h1
noncomputable def bI (P : Prop) : Int := @ite Int P (Classical.propDecidable P) 1 0
theorem bI_t {P : Prop} (h : P) : bI P = 1 := by unfold bI; exact if_pos h
theorem bI_f {P : Prop} (h : ¬ P) : bI P = 0 := by unfold bI; exact if_neg h
theorem bI_c (P : Prop) : bI P = 0 ∨ bI P = 1 := by
  rcases Classical.em P with h | h
  · exact Or.inr (bI_t h)
  · exact Or.inl (bI_f h)
theorem i01_f {P : Prop} [Decidable P] (h : (if P then (1 : Int) else 0) = 0) : ¬ P := fun q => by rw [if_pos q] at h; omega
theorem i01_t {P : Prop} [Decidable P] (h : ¬ (if P then (1 : Int) else 0) = 0) : P := Classical.byContradiction (fun q => h (if_neg q))
theorem mark_mem {m : jM} {t : Nat} {k v x y : Int} (ht : t < 19) (hc : m (19 + t) 0 = cnt (m t)) (hk : -1 ≤ k ∧ k ≤ 255) (hy : y = m (19 + t) 0 + x) (hx : x = pres v - pres (m t (k + 1))) : mset (mset m (19 + t) 0 y) t (k + 1) v = tset m t (fmark (m t) k v) := by
  subst hy
  have e := cnt_set (f := m t) (i := k + 1) (v := v) (by omega) (by omega)
  funext i z
  unfold mset tset fmark
  rw [if_pos hk]
  by_cases h1 : i = t
  · subst h1
    rw [if_pos rfl]
    by_cases hz : z = k + 1
    · rw [if_pos ⟨rfl, hz⟩, if_pos hz]
    · rw [if_neg (fun q => hz q.2), if_neg (fun q => absurd q.1 (by omega)), if_neg hz]
  · rw [if_neg (fun q => h1 q.1), if_neg h1]
    by_cases h2 : i = 19 + t
    · rw [if_pos h2]
      by_cases hz : z = 0
      · rw [if_pos ⟨h2, hz⟩, if_pos hz, e, hc, hx]; omega
      · rw [if_neg (fun q => hz q.2), if_neg hz]
    · rw [if_neg (fun q => h2 q.1), if_neg h2]
/-- a table's row and count written whole -/
theorem row_mem {m : jM} {t : Nat} {f : Int → Int} {y : Int} (hy : y = cnt f) : mset (mrow m t f) (19 + t) 0 y = tset m t f := by
  subst hy
  funext i z
  unfold mset mrow tset
  by_cases h1 : i = t
  · subst h1
    rw [if_pos rfl, if_neg (fun q => absurd q.1 (by omega)), if_pos rfl]
  · rw [if_neg h1, if_neg h1]
    by_cases h2 : i = 19 + t
    · rw [if_pos h2]
      by_cases hz : z = 0
      · rw [if_pos ⟨h2, hz⟩, if_pos hz]
      · rw [if_neg (fun q => hz q.2), if_neg hz]
    · rw [if_neg (fun q => h2 q.1), if_neg h2]
theorem itN_ex {α : Type} : ∃ I : (Nat → α → α) → α → Nat → α, I = fun f x n => Nat.rec (motive := fun _ => α) x (fun i y => f i y) n := ⟨_, rfl⟩
/-- f 0, f 1, .. f (n - 1) done one after the other, from x on; told by choice -/
noncomputable def itN {α : Type} : (Nat → α → α) → α → Nat → α := Classical.choose itN_ex
theorem itN_eq {α : Type} : @itN α = fun f x n => Nat.rec (motive := fun _ => α) x (fun i y => f i y) n := Classical.choose_spec itN_ex
theorem itN_0 {α : Type} (f : Nat → α → α) (x : α) : itN f x 0 = x := by rw [itN_eq]; rfl
theorem itN_s {α : Type} (f : Nat → α → α) (x : α) (n : Nat) : itN f x (n + 1) = f n (itN f x n) := by rw [itN_eq]
theorem wl_mark {m : jM} {t i j : Nat} {g f : Int → Int} {k v : Int} (hv : v = g i) (hk : k = i - 1) (hj : j = i + 1) (h1 : i < 257) : tset (tset m t (upto g f i)) t (fmark (tset m t (upto g f i) t) k v) = tset m t (upto g f j) := by
  rw [tset_tset, tset_at, upto_mark hv hk (show (j : Int) = i + 1 by omega) (by omega) (by omega)]
theorem wl_skip {m : jM} {t i j : Nat} {g f : Int → Int} (h : g i = f i) (hj : j = i + 1) : tset m t (upto g f i) = tset m t (upto g f j) := by
  rw [upto_skip h (show (j : Int) = i + 1 by omega) (by omega)]
theorem wl_0 {m : jM} {t : Nat} (g : Int → Int) (h : m (19 + t) 0 = cnt (m t)) : m = tset m t (upto g (m t) ((0 : Nat) : Int)) := by
  rw [show ((0 : Nat) : Int) = 0 from rfl, upto_0, tset_self h]
theorem wl_0w {m : jM} {t : Nat} (g f : Int → Int) : tset m t f = tset m t (upto g f ((0 : Nat) : Int)) := by
  rw [show ((0 : Nat) : Int) = 0 from rfl, upto_0]
def mx0 (a : Int) : Int := if a < 0 then 0 else a
def wr (a : Int) : Int := if 255 < a then a - 256 else a
theorem jxor_r (a b : Int) : jr (jxor a b) := by
  unfold jxor
  have h1 := (Int32.ofInt a ^^^ Int32.ofInt b).le_toInt
  have h2 := (Int32.ofInt a ^^^ Int32.ofInt b).toInt_lt
  exact ⟨by omega, by omega⟩
theorem jand_r (a b : Int) : jr (jand a b) := by
  unfold jand
  have h1 := (Int32.ofInt a &&& Int32.ofInt b).le_toInt
  have h2 := (Int32.ofInt a &&& Int32.ofInt b).toInt_lt
  exact ⟨by omega, by omega⟩
def eqR (f g : Int → Int) : Prop := ∀ z : Int, 0 ≤ z → z < 257 → f z = g z
def eqK (f g : Int → Int) : Prop := ∀ z : Int, 0 ≤ z → z < 257 → (f z = -2 ↔ g z = -2)
def inside (f : Int → Int) : Prop := ∀ z : Int, 0 ≤ z → z < 257 → f z = -2 ∨ tat f (f z) ≠ -2
/-- the key at a place, by the keys' order -/
noncomputable def nthK (f : Int → Int) (p : Int) : Int := Classical.epsilon (fun z => ∃ i : Nat, i < 257 ∧ f i ≠ -2 ∧ sumN (fun z => pres (f z)) i = p ∧ z = i - 1)
theorem sumN_mono {f : Int → Int} (h : ∀ z, 0 ≤ f z) (a b : Nat) (hab : a ≤ b) : sumN f a ≤ sumN f b := by
  induction b with
  | zero => obtain rfl : a = 0 := by omega
            exact Int.le_refl _
  | succ b ih =>
    by_cases e : a = b + 1
    · subst e; exact Int.le_refl _
    · rw [sumN_s]
      have := ih (by omega)
      have := h b
      omega
theorem nthK_eq {f : Int → Int} {p : Int} {i : Nat} (h1 : i < 257) (h2 : f i ≠ -2) (h3 : sumN (fun z => pres (f z)) i = p) : nthK f p = i - 1 := by
  have hex : ∃ z : Int, ∃ i : Nat, i < 257 ∧ f i ≠ -2 ∧ sumN (fun z => pres (f z)) i = p ∧ z = i - 1 := ⟨i - 1, i, h1, h2, h3, rfl⟩
  obtain ⟨j, g1, g2, g3, g4⟩ := Classical.epsilon_spec hex
  have key : ∀ a b : Nat, f a ≠ -2 → sumN (fun z => pres (f z)) a = p → sumN (fun z => pres (f z)) b = p → a < b → False := by
    intro a b ha hsa hsb hab
    have h9 := sumN_mono (f := fun z => pres (f z)) (fun z => (pres_b _).1) (a + 1) b (by omega)
    rw [sumN_s, hsa, hsb] at h9
    have : pres (f a) = 1 := if_neg ha
    omega
  have hij : j = i := by
    rcases Nat.lt_trichotomy j i with q | q | q
    · exact (key j i g2 g3 h3 q).elim
    · exact q
    · exact (key i j h2 h3 g3 q).elim
  unfold nthK
  rw [g4, hij]
/-- a row turned round, key by key -/
noncomputable def turnN (f : Int → Int) (n : Nat) : Int → Int := itN (fun i g => if f i = -2 then g else fmark g (f i) (i - 1)) (fun _ => -2) n
theorem turnN_ok {f : Int → Int} : ∀ n : Nat, n ≤ 257 → rowok (turnN f n)
  | 0, _ => by unfold turnN; rw [itN_0]; intro z _ _; exact ⟨(by decide : (-2 : Int) ≤ -2), (by decide : (-2 : Int) ≤ 255)⟩
  | n + 1, h => by
    have ih := turnN_ok (f := f) n (by omega)
    unfold turnN at ih ⊢
    rw [itN_s]
    by_cases e : f n = -2
    · rw [if_pos e]; exact ih
    · rw [if_neg e]; exact fmark_ok ih ⟨by omega, by omega⟩
/-- the checksum over a row -/
noncomputable def ckT (f : Int → Int) (s : Int) (n : Nat) : Int := itN (fun i s => if f i = -2 then s else 31 * (31 * s + (i - 1)) + f i) (31 * s + cnt f) n

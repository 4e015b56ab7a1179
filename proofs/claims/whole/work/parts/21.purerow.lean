/-! PURE WORDS of the row of words, of what is kept, of following -/
/-- w words: their keys and values in range -/
def rwok (m : jM) (w : Nat) : Prop := m 40 0 = w ∧ w ≤ 60 ∧ ∀ z : Int, 0 ≤ z → z < w → (-1 ≤ m 41 z ∧ m 41 z ≤ 255) ∧ (-2 ≤ m 42 z ∧ m 42 z ≤ 255)
/-- words played from nothing -/
noncomputable def playN (K V : Int → Int) (n : Nat) : Int → Int := itN (fun i g => fmark g (K i) (V i)) (fun _ => -2) n
theorem playN_0 (K V : Int → Int) : playN K V 0 = fun _ => -2 := itN_0 _ _
theorem playN_s (K V : Int → Int) (n : Nat) : playN K V (n + 1) = fmark (playN K V n) (K n) (V n) := itN_s _ _ _
theorem rowok_none : rowok (fun _ => -2) := fun _ _ _ => ⟨(by decide : (-2 : Int) ≤ -2), (by decide : (-2 : Int) ≤ 255)⟩
theorem playN_ok {K V : Int → Int} : ∀ n : Nat, (∀ z : Int, 0 ≤ z → z < n → -2 ≤ V z ∧ V z ≤ 255) → rowok (playN K V n)
  | 0, _ => by rw [playN_0]; exact rowok_none
  | n + 1, h => by rw [playN_s]; exact fmark_ok (playN_ok n (fun z h0 h1 => h z h0 (by omega))) (h n (by omega) (by omega))
/-- a later word, from i on, of the key of place z -/
def later (K : Int → Int) (w i : Nat) (z : Int) : Prop := ∃ j : Nat, i ≤ j ∧ j < w ∧ K j + 1 = z
theorem playN_off {K V : Int → Int} {z : Int} (hK : ∀ n : Nat, K n + 1 ≠ z ∨ True) : ∀ n : Nat, (∀ j : Nat, j < n → K j + 1 ≠ z) → playN K V n z = -2
  | 0, _ => by rw [playN_0]
  | n + 1, h => by
    rw [playN_s]
    unfold fmark
    by_cases e : -1 ≤ K n ∧ K n ≤ 255
    · rw [if_pos e]
      show (if z = K n + 1 then V n else playN K V n z) = -2
      rw [if_neg (fun q => h n (by omega) q.symm)]
      exact playN_off hK n (fun j hj => h j (by omega))
    · rw [if_neg e]
      exact playN_off hK n (fun j hj => h j (by omega))
theorem playN_last {K V : Int → Int} {j : Nat} (hk : -1 ≤ K j ∧ K j ≤ 255) : ∀ n : Nat, j < n → (∀ i : Nat, j < i → i < n → K i ≠ K j) → playN K V n (K j + 1) = V j
  | 0, h, _ => absurd h (by omega)
  | n + 1, h, hl => by
    rw [playN_s]
    unfold fmark
    by_cases e : n = j
    · subst e
      rw [if_pos hk]
      show (if K n + 1 = K n + 1 then V n else _) = V n
      rw [if_pos rfl]
    · have ih := playN_last (V := V) hk n (by omega) (fun i h1 h2 => hl i h1 (by omega))
      by_cases e2 : -1 ≤ K n ∧ K n ≤ 255
      · rw [if_pos e2]
        show (if K j + 1 = K n + 1 then V n else playN K V n (K j + 1)) = V j
        rw [if_neg (fun q => hl n (by omega) (by omega) (by omega))]
        exact ih
      · rw [if_neg e2]; exact ih
/-- word i is followed by no word of its key -/
def isL (K : Int → Int) (w : Nat) (i : Int) : Prop := ∀ j : Nat, i < j → j < w → K j ≠ K i
noncomputable def lastCount (K : Int → Int) (w : Nat) : Int := sumN (fun i => bI (isL K w i)) w
/-- the checksum over the words -/
noncomputable def ckR (K V : Int → Int) (w : Int) (s : Int) (n : Nat) : Int := itN (fun i s => 31 * (31 * s + K i) + V i) (31 * s + w) n
theorem ckR_0 (K V : Int → Int) (w s : Int) : ckR K V w s 0 = 31 * s + w := itN_0 _ _
theorem ckR_s (K V : Int → Int) (w s : Int) (n : Nat) : ckR K V w s (n + 1) = 31 * (31 * ckR K V w s n + K n) + V n := itN_s _ _ _
theorem mrow_rd {m : jM} {j i : Nat} {f : Int → Int} (h : i ≠ j) : mrow m j f i = m i := mrow_ne h
theorem mset_row (m : jM) (j : Nat) (z y : Int) : mset m j z y = mrow m j (fun k => if k = z then y else m j k) := by
  funext i k
  unfold mset mrow
  by_cases e : i = j
  · subst e
    rw [if_pos rfl]
    by_cases e2 : k = z
    · rw [if_pos ⟨rfl, e2⟩, if_pos e2]
    · rw [if_neg (fun q => e2 q.2), if_neg e2]
  · rw [if_neg (fun q => e q.1), if_neg e]
theorem mrow_mrow (m : jM) (j : Nat) (f g : Int → Int) : mrow (mrow m j f) j g = mrow m j g := by
  funext i
  unfold mrow
  by_cases e : i = j
  · rw [if_pos e, if_pos e]
  · rw [if_neg e, if_neg e, if_neg e]
theorem mrow_self (m : jM) (j : Nat) : mrow m j (m j) = m := by
  funext i
  unfold mrow
  by_cases e : i = j
  · rw [if_pos e, e]
  · rw [if_neg e]
theorem mrow_comm {m : jM} {j i : Nat} {f g : Int → Int} (h : i ≠ j) : mrow (mrow m j f) i g = mrow (mrow m i g) j f := by
  funext k
  unfold mrow
  by_cases e : k = i
  · rw [if_pos e, if_neg (by omega), if_pos e]
  · rw [if_neg e]
    by_cases e2 : k = j
    · rw [if_pos e2, if_pos e2]
    · rw [if_neg e2, if_neg e2, if_neg e]
theorem tset_mrow {m : jM} {t j : Nat} {f g : Int → Int} (h1 : j ≠ t) (h2 : j ≠ 19 + t) : tset (mrow m j g) t f = mrow (tset m t f) j g := by
  funext i
  unfold tset mrow
  dsimp only
  by_cases e : i = t
  · rw [if_pos e, if_neg (by omega), if_pos e]
  · by_cases e2 : i = 19 + t
    · have e3 : ¬ i = j := by omega
      rw [if_neg e, if_pos e2, if_neg e3, if_neg e3, if_neg e, if_pos e2]
    · rw [if_neg e, if_neg e2]
      by_cases e3 : i = j
      · rw [if_pos e3, if_pos e3]
      · rw [if_neg e3, if_neg e3, if_neg e, if_neg e2]
/-- rows told twice the same -/
theorem mrow_ext {m : jM} {j : Nat} {f g : Int → Int} (h : f = g) : mrow m j f = mrow m j g := by rw [h]
/-- a row that only matters below n -/
theorem mrow_eqv {m : jM} {j n : Nat} (hn : mlen j = n) {f g : Int → Int} (h : ∀ z : Int, 0 ≤ z → z < n → f z = g z) : jeqv (mrow m j f) (mrow m j g) := by
  intro i hi z h0 h1
  by_cases e : i = j
  · subst e
    rw [mrow_at, mrow_at]
    exact h z h0 (by rw [← hn]; exact h1)
  · rw [mrow_ne e, mrow_ne e]
theorem upto_put {g f : Int → Int} {i : Nat} {v : Int} (hv : v = g i) : (fun k => if k = (i : Int) then v else upto g f i k) = upto g f ((i + 1 : Nat) : Int) := by
  subst hv
  funext z
  unfold upto
  by_cases e : z = i
  · subst e; rw [if_pos rfl, if_pos (by omega)]
  · rw [if_neg e]
    by_cases e2 : 0 ≤ z ∧ z < i
    · rw [if_pos e2, if_pos (by omega)]
    · rw [if_neg e2, if_neg (by omega)]
theorem mset_same {m : jM} {j : Nat} {z y : Int} (h : m j z = y) : mset m j z y = m := by
  funext i k
  unfold mset
  by_cases e : i = j ∧ k = z
  · rw [if_pos e, e.1, e.2, h]
  · rw [if_neg e]
def swp (f : Int → Int) (i : Int) : Int → Int := fun z => if z = i then f (i + 1) else if z = i + 1 then f i else f z
theorem swap_mem (m : jM) (i : Int) : mset (mset (mset (mset m 41 i (m 41 (i + 1))) 42 i (mset m 41 i (m 41 (i + 1)) 42 (i + 1))) 41 (i + 1) (m 41 i)) 42 (i + 1) (m 42 i) = mrow (mrow m 41 (swp (m 41) i)) 42 (swp (m 42) i) := by
  funext j z
  unfold mset mrow swp
  by_cases a : j = 41
  · subst a
    by_cases e1 : z = i
    · rw [if_neg (by omega), if_neg (by omega), if_neg (by omega), if_pos ⟨rfl, e1⟩, if_neg (by omega), if_pos rfl, if_pos e1]
    · by_cases e2 : z = i + 1
      · rw [if_neg (by omega), if_pos ⟨rfl, e2⟩, if_neg (by omega), if_pos rfl, if_neg e1, if_pos e2]
      · rw [if_neg (by omega), if_neg (fun q => e2 q.2), if_neg (by omega), if_neg (fun q => e1 q.2), if_neg (by omega), if_pos rfl, if_neg e1, if_neg e2]
  · by_cases b : j = 42
    · subst b
      by_cases e1 : z = i
      · rw [if_neg (by omega), if_neg (by omega), if_pos ⟨rfl, e1⟩, if_neg (by omega), if_pos rfl, if_pos e1]
      · by_cases e2 : z = i + 1
        · rw [if_pos ⟨rfl, e2⟩, if_pos rfl, if_neg e1, if_pos e2]
        · rw [if_neg (fun q => e2 q.2), if_neg (by omega), if_neg (fun q => e1 q.2), if_neg (by omega), if_pos rfl, if_neg e1, if_neg e2]
    · rw [if_neg (by omega), if_neg (by omega), if_neg (by omega), if_neg (by omega), if_neg b, if_neg a]
abbrev jSt : Type := Int × (Int → Int) × (Int → Int) × Int
/-- one round of stirring w words: the number, the keys, the values, how many changes -/
noncomputable def stirStep (w : Int) (q : jSt) : jSt :=
  @ite jSt (((48271 * q.1).tmod 2147483647).tmod w + 1 < w ∧ q.2.1 (((48271 * q.1).tmod 2147483647).tmod w) ≠ q.2.1 (((48271 * q.1).tmod 2147483647).tmod w + 1)) (Classical.propDecidable _)
    ((48271 * q.1).tmod 2147483647, swp q.2.1 (((48271 * q.1).tmod 2147483647).tmod w), swp q.2.2.1 (((48271 * q.1).tmod 2147483647).tmod w), q.2.2.2 + 1)
    ((48271 * q.1).tmod 2147483647, q.2.1, q.2.2.1, q.2.2.2)
noncomputable def stirN (w s : Int) (K V : Int → Int) (n : Nat) : jSt := itN (fun _ q => stirStep w q) (s, K, V, 0) n
theorem stirN_0 (w s : Int) (K V : Int → Int) : stirN w s K V 0 = (s, K, V, 0) := itN_0 _ _
theorem stirN_s (w s : Int) (K V : Int → Int) (n : Nat) : stirN w s K V (n + 1) = stirStep w (stirN w s K V n) := itN_s _ _ _
theorem stir_go {w z z2 j c : Int} {K V : Int → Int} (hz : z2 = (48271 * z).tmod 2147483647) (hj : j = z2.tmod w) (h : j + 1 < w ∧ K j ≠ K (j + 1)) : stirStep w (z, K, V, c) = (z2, swp K j, swp V j, c + 1) := by
  subst hj; subst hz
  unfold stirStep
  exact if_pos h
theorem stir_no {w z z2 j c : Int} {K V : Int → Int} (hz : z2 = (48271 * z).tmod 2147483647) (hj : j = z2.tmod w) (h : ¬ (j + 1 < w ∧ K j ≠ K (j + 1))) : stirStep w (z, K, V, c) = (z2, K, V, c) := by
  subst hj; subst hz
  unfold stirStep
  exact if_neg h
theorem tmod_b {a b : Int} (ha : 0 ≤ a) (hb : 0 < b) : 0 ≤ a.tmod b ∧ a.tmod b < b := by
  rw [Int.tmod_eq_emod_of_nonneg ha]
  exact ⟨Int.emod_nonneg a (by omega), Int.emod_lt_of_pos a hb⟩
def kin (K : Int → Int) (a w : Int) : Prop := ∀ z : Int, 0 ≤ z → z < w → a ≤ K z ∧ K z ≤ 255
theorem kin_swp {K : Int → Int} {a w j : Int} (h : kin K a w) (h0 : 0 ≤ j) (h1 : j + 1 < w) : kin (swp K j) a w := by
  intro z hz0 hz1
  unfold swp
  by_cases e1 : z = j
  · rw [if_pos e1]; exact h _ (by omega) (by omega)
  · rw [if_neg e1]
    by_cases e2 : z = j + 1
    · rw [if_pos e2]; exact h _ (by omega) (by omega)
    · rw [if_neg e2]; exact h _ hz0 hz1
theorem swap_rows {m : jM} {K V : Int → Int} {j : Int} : mrow (mrow (mrow (mrow m 41 K) 42 V) 41 (swp ((mrow (mrow m 41 K) 42 V) 41) j)) 42 (swp ((mrow (mrow m 41 K) 42 V) 42) j) = mrow (mrow m 41 (swp K j)) 42 (swp V j) := by
  rw [mrow_at, mrow_ne (j := 42) (i := 41) (by decide), mrow_at, mrow_comm (j := 42) (i := 41) (by decide), mrow_mrow, mrow_mrow]
/-- the noise's own row -/
def dG (f g : Int → Int) (i : Int) : Int → Int := fun z => if 0 ≤ z ∧ z < i then f (z + 1) else g z
def dF (f : Int → Int) (i : Int) : Int → Int := fun z => if 1 ≤ z ∧ z < i + 1 then -1 else f z
def dF2 (f : Int → Int) (i : Int) : Int → Int := fun z => if i + 1 ≤ z ∧ z < 33 then -1 else f z
theorem dF_ok {f : Int → Int} (h : rowok f) (i : Int) : rowok (dF f i) := by
  intro z h0 h1
  have := h z h0 h1
  unfold dF
  split <;> omega
theorem dF2_ok {f : Int → Int} (h : rowok f) (i : Int) : rowok (dF2 f i) := by
  intro z h0 h1
  have := h z h0 h1
  unfold dF2
  split <;> omega
theorem dF_0 (f : Int → Int) : dF f 0 = f := by funext z; exact if_neg (by omega)
theorem dG_0 (f g : Int → Int) : dG f g 0 = g := by funext z; exact if_neg (by omega)
theorem dF_32 (f : Int → Int) : dF f 32 = dF2 f 0 := by
  funext z
  unfold dF dF2
  by_cases e : 1 ≤ z ∧ z < 33
  · rw [if_pos (by omega), if_pos (by omega)]
  · rw [if_neg (by omega), if_neg (by omega)]
theorem dF2_32 (f : Int → Int) : dF2 f 32 = f := by funext z; exact if_neg (by omega)
theorem dist_1 {m : jM} {t i : Nat} {x k : Int} (ht : t < 19) (hi : i < 32) (hx : x = m t ((i : Int) + 1)) (hk : k = i) : tset (mset (mrow (tset m t (dF (m t) i)) 44 (dG (m t) (m 44) i)) 44 k x) t (fmark ((mset (mrow (tset m t (dF (m t) i)) 44 (dG (m t) (m 44) i)) 44 k x) t) k (-1)) = mrow (tset m t (dF (m t) ((i + 1 : Nat) : Int))) 44 (dG (m t) (m 44) ((i + 1 : Nat) : Int)) := by
  subst hx; subst hk
  rw [mset_row, mrow_mrow, mrow_ne (j := 44) (i := t) (by omega), tset_mrow (by omega) (by omega), tset_tset, tset_at, mrow_at]
  congr 1
  · congr 1
    funext z
    unfold fmark dF
    rw [if_pos ⟨by omega, by omega⟩]
    by_cases e : z = (i : Int) + 1
    · rw [if_pos e, if_pos (by omega)]
    · rw [if_neg e]
      by_cases e2 : 1 ≤ z ∧ z < (i : Int) + 1
      · rw [if_pos e2, if_pos (by omega)]
      · rw [if_neg e2, if_neg (by omega)]
  · funext z
    unfold dG
    by_cases e : z = (i : Int)
    · subst e; rw [if_pos rfl, if_pos (by omega)]
    · rw [if_neg e]
      by_cases e2 : 0 ≤ z ∧ z < (i : Int)
      · rw [if_pos e2, if_pos (by omega)]
      · rw [if_neg e2, if_neg (by omega)]
theorem dist_2 {m : jM} {t i : Nat} {x k : Int} {G : Int → Int} (ht : t < 19) (hi : i < 32) (hx : x = m t ((i : Int) + 1)) (hk : k = i) : tset (mrow (tset m t (dF2 (m t) i)) 44 G) t (fmark ((mrow (tset m t (dF2 (m t) i)) 44 G) t) k x) = mrow (tset m t (dF2 (m t) ((i + 1 : Nat) : Int))) 44 G := by
  subst hx; subst hk
  rw [mrow_ne (j := 44) (i := t) (by omega), tset_mrow (by omega) (by omega), tset_tset, tset_at]
  congr 1
  congr 1
  funext z
  unfold fmark dF2
  rw [if_pos ⟨by omega, by omega⟩]
  by_cases e : z = (i : Int) + 1
  · rw [if_pos e, if_neg (by omega), e]
  · rw [if_neg e]
    by_cases e2 : (i : Int) + 1 ≤ z ∧ z < 33
    · rw [if_pos e2, if_pos (by omega)]
    · rw [if_neg e2, if_neg (by omega)]
theorem later_s {K : Int → Int} {w j : Nat} {z : Int} (hj : j < w) : later K w j z ↔ (z = K j + 1 ∨ later K w (j + 1) z) := by
  constructor
  · rintro ⟨i, h1, h2, h3⟩
    by_cases e : i = j
    · subst e; exact Or.inl h3.symm
    · exact Or.inr ⟨i, by omega, h2, h3⟩
  · rintro (h | ⟨i, h1, h2, h3⟩)
    · exact ⟨j, Nat.le_refl _, hj, h.symm⟩
    · exact ⟨i, by omega, h2, h3⟩
theorem later_w {K : Int → Int} {w : Nat} {z : Int} : ¬ later K w w z := by
  rintro ⟨i, h1, h2, -⟩
  omega
theorem later_isL {K : Int → Int} {w j : Nat} : ¬ later K w (j + 1) (K j + 1) ↔ isL K w j := by
  constructor
  · intro h i h1 h2 h3
    exact h ⟨i, by omega, h2, by omega⟩
  · rintro h ⟨i, h1, h2, h3⟩
    exact h i (by omega) h2 (by omega)
/-- which keys are followed, told by the row 43 -/
def FL (m mm : jM) (w i : Nat) : Prop := (∀ z : Int, 0 ≤ z → z < 257 → (mm 43 z = 0 ∨ mm 43 z = 1)) ∧ ∀ z : Int, 0 ≤ z → z < 257 → (mm 43 z = 1 ↔ later (m 41) w i z)
theorem FL_init {m mm : jM} {w : Nat} (h : mm 43 = fun _ => 0) : FL m mm w w := by
  refine ⟨fun z _ _ => Or.inl (by rw [h]), fun z _ _ => ⟨fun q => ?_, fun q => absurd q later_w⟩⟩
  rw [h] at q
  exact absurd (show (0 : Int) = 1 from q) (by decide)
theorem FL_step {m mm : jM} {w j : Nat} {p : Int} (h : FL m mm w (j + 1)) (hj : j < w) (hp : p = m 41 j + 1) : FL m (mset mm 43 p 1) w j := by
  subst hp
  refine ⟨fun z h0 h1 => ?_, fun z h0 h1 => ?_⟩
  · by_cases e : z = m 41 j + 1
    · rw [e, mset_at]; exact Or.inr rfl
    · rw [mset_off e]; exact h.1 z h0 h1
  · rw [later_s hj]
    by_cases e : z = m 41 j + 1
    · rw [e, mset_at]; exact ⟨fun _ => Or.inl rfl, fun _ => rfl⟩
    · rw [mset_off e, h.2 z h0 h1]; exact ⟨Or.inr, fun q => q.resolve_left e⟩
theorem FL_is {m mm : jM} {w j : Nat} (h : FL m mm w (j + 1)) (hk : -1 ≤ m 41 j ∧ m 41 j ≤ 255) : mm 43 (m 41 j + 1) = 0 ↔ isL (m 41) w j := by
  rw [← later_isL, ← h.2 _ (by omega) (by omega)]
  have := h.1 (m 41 j + 1) (by omega) (by omega)
  omega
/-- the table while the last words are played, from the last one on -/
def DL (m mm : jM) (w t i : Nat) : Prop := (∀ j : Nat, j ≠ t → j ≠ 19 + t → j ≠ 43 → j ≠ 44 → mm j = m j) ∧ tok mm t ∧ FL m mm w i ∧ ∀ z : Int, 0 ≤ z → z < 257 → (later (m 41) w i z → mm t z = playN (m 41) (m 42) w z) ∧ (¬ later (m 41) w i z → mm t z = -2)
theorem DL_skip {m mm : jM} {w t j : Nat} {p : Int} (ht : t < 19) (h : DL m mm w t (j + 1)) (hj : j < w) (hp : p = m 41 j + 1) (hk : -1 ≤ m 41 j ∧ m 41 j ≤ 255) (h0 : ¬ mm 43 p = 0) : DL m (mset mm 43 p 1) w t j := by
  obtain ⟨h1, h2, h3, h4⟩ := h
  have hl : later (m 41) w (j + 1) p := by
    rw [← h3.2 p (by omega) (by omega)]
    have := h3.1 p (by omega) (by omega)
    omega
  refine ⟨fun i a b c d => by rw [mset_ne c]; exact h1 i a b c d, ?_, FL_step h3 hj hp, fun z z0 z1 => ?_⟩
  · unfold tok; rw [mset_ne (by omega), mset_ne (by omega)]; exact h2
  · rw [mset_ne (by omega), later_s hj]
    have h5 := h4 z z0 z1
    refine ⟨fun q => h5.1 ?_, fun q => h5.2 (fun r => q (Or.inr r))⟩
    rcases q with q | q
    · rw [q, ← hp]; exact hl
    · exact q
theorem DL_mark {m mm mm1 : jM} {w t j : Nat} {p : Int} (ht : t < 19) (h : DL m mm w t (j + 1)) (hj : j < w) (hp : p = m 41 j + 1) (hk : -1 ≤ m 41 j ∧ m 41 j ≤ 255) (hv : -2 ≤ m 42 j ∧ m 42 j ≤ 255) (h0 : mm 43 p = 0) (he : ∀ i : Nat, i ≠ 44 → mm1 i = mset mm 43 p 1 i) : DL m (tset mm1 t (fmark (mm1 t) (mm1 41 j) (mm1 42 j))) w t j := by
  obtain ⟨h1, h2, h3, h4⟩ := h
  have e41 : mm1 41 j = m 41 j := by rw [he 41 (by decide), mset_ne (by decide), h1 41 (by omega) (by omega) (by decide) (by decide)]
  have e42 : mm1 42 j = m 42 j := by rw [he 42 (by decide), mset_ne (by decide), h1 42 (by omega) (by omega) (by decide) (by decide)]
  have et : mm1 t = mm t := by rw [he t (by omega), mset_ne (by omega)]
  rw [e41, e42, et]
  have hnl : ¬ later (m 41) w (j + 1) p := by
    rw [← h3.2 p (by omega) (by omega), h0]
    decide
  refine ⟨fun i a b c d => by rw [tset_ne a b, he i d, mset_ne c]; exact h1 i a b c d, tset_tok (fmark_ok h2.1 hv), ?_, fun z z0 z1 => ?_⟩
  · have h5 := FL_step h3 hj hp
    have e43 : tset mm1 t (fmark (mm t) (m 41 j) (m 42 j)) 43 = mset mm 43 p 1 43 := by rw [tset_ne (by omega) (by omega)]; exact he 43 (by decide)
    unfold FL
    rw [e43]
    exact h5
  · rw [tset_at, later_s hj]
    unfold fmark
    rw [if_pos hk]
    show (z = m 41 j + 1 ∨ later (m 41) w (j + 1) z → (if z = m 41 j + 1 then m 42 j else mm t z) = _) ∧ (_ → (if z = m 41 j + 1 then m 42 j else mm t z) = -2)
    by_cases e : z = m 41 j + 1
    · rw [if_pos e]
      refine ⟨fun _ => ?_, fun q => absurd (Or.inl e) q⟩
      rw [e]
      exact (playN_last hk w hj (fun i i1 i2 i3 => hnl ⟨i, by omega, i2, by omega⟩)).symm
    · rw [if_neg e]
      have h5 := h4 z z0 z1
      exact ⟨fun q => h5.1 (q.resolve_left e), fun q => h5.2 (fun r => q (Or.inr r))⟩
theorem DL_end {m mm : jM} {w t : Nat} (h : DL m mm w t 0) : eqR (mm t) (playN (m 41) (m 42) w) := by
  intro z z0 z1
  have h5 := h.2.2.2 z z0 z1
  by_cases e : later (m 41) w 0 z
  · exact h5.1 e
  · rw [h5.2 e]
    exact (playN_off (fun _ => Or.inr trivial) w (fun j hj q => e ⟨j, Nat.zero_le _, hj, q⟩)).symm
theorem DL_init {m : jM} {w t : Nat} (ht : t < 19) : DL m (mrow (tset m t (fun _ => -2)) 43 (fun _ => 0)) w t w := by
  refine ⟨fun i a b c d => by rw [mrow_ne c, tset_ne a b], ?_, FL_init (mrow_at _ _ _), fun z z0 z1 => ⟨fun q => absurd q later_w, fun _ => ?_⟩⟩
  · unfold tok; rw [mrow_ne (by omega), mrow_ne (by omega)]; exact tset_tok rowok_none
  · rw [mrow_ne (by omega), tset_at]
/-- which rows of the class a method may write -/
def frm (m m' : jM) (S : List Nat) : Prop := ∀ j : Nat, j ∉ S → m' j = m j

/-! PURE WORDS of the check's own maps: rows in one array -/
def mR (m : jM) (s : Nat) : Int → Int := fun z => m 52 (257 * (s : Int) + z)
def mK (m : jM) (i : Nat) : Int → Int := fun z => m 58 (257 * (i : Int) + z)
/-- a map's row written anew -/
def mw (m : jM) (s : Nat) (f : Int → Int) : jM := fun j => if j = 52 then (fun p => if 257 * (s : Int) ≤ p ∧ p < 257 * (s : Int) + 257 then f (p - 257 * (s : Int)) else m 52 p) else m j
theorem mw_ne {m : jM} {s j : Nat} {f : Int → Int} (h : j ≠ 52) : mw m s f j = m j := if_neg h
theorem mw_52 (m : jM) (s : Nat) (f : Int → Int) (p : Int) : mw m s f 52 p = if 257 * (s : Int) ≤ p ∧ p < 257 * (s : Int) + 257 then f (p - 257 * (s : Int)) else m 52 p := by
  unfold mw
  rw [if_pos rfl]
theorem mR_mw (m : jM) (s : Nat) (f : Int → Int) : eqR (mR (mw m s f) s) f := by
  intro z h0 h1
  show mw m s f 52 (257 * (s : Int) + z) = f z
  rw [mw_52, if_pos ⟨by omega, by omega⟩]
  exact congrArg f (by omega)
theorem mR_mw_ne {m : jM} {s t : Nat} {f : Int → Int} (h : t ≠ s) : eqR (mR (mw m s f) t) (mR m t) := by
  intro z h0 h1
  show mw m s f 52 (257 * (t : Int) + z) = m 52 (257 * (t : Int) + z)
  rw [mw_52, if_neg (by omega)]
theorem mw_mw (m : jM) (s : Nat) (f g : Int → Int) : mw (mw m s f) s g = mw m s g := by
  funext j
  by_cases e : j = 52
  · subst e
    funext p
    rw [mw_52, mw_52, mw_52]
    by_cases e2 : 257 * (s : Int) ≤ p ∧ p < 257 * (s : Int) + 257
    · rw [if_pos e2, if_pos e2]
    · rw [if_neg e2, if_neg e2, if_neg e2]
  · rw [mw_ne e, mw_ne e, mw_ne e]
theorem mw_self (m : jM) (s : Nat) : mw m s (mR m s) = m := by
  funext j
  by_cases e : j = 52
  · subst e
    funext p
    rw [mw_52]
    by_cases e2 : 257 * (s : Int) ≤ p ∧ p < 257 * (s : Int) + 257
    · rw [if_pos e2]
      show m 52 (257 * (s : Int) + (p - 257 * (s : Int))) = m 52 p
      exact congrArg (m 52) (by omega)
    · rw [if_neg e2]
  · rw [mw_ne e]
theorem mw_congr {m : jM} {s : Nat} {f g : Int → Int} (h : eqR f g) : mw m s f = mw m s g := by
  funext j
  by_cases e : j = 52
  · subst e
    funext p
    rw [mw_52, mw_52]
    by_cases e2 : 257 * (s : Int) ≤ p ∧ p < 257 * (s : Int) + 257
    · rw [if_pos e2, if_pos e2, h _ (by omega) (by omega)]
    · rw [if_neg e2, if_neg e2]
  · rw [mw_ne e, mw_ne e]
theorem mset_mw {m : jM} {s : Nat} {p i v : Int} (hp : p = 257 * (s : Int) + i) (h0 : 0 ≤ i) (h1 : i < 257) : mset m 52 p v = mw m s (fun z => if z = i then v else mR m s z) := by
  subst hp
  funext j
  by_cases e : j = 52
  · subst e
    funext q
    rw [mw_52]
    unfold mset mR
    by_cases e3 : q = 257 * (s : Int) + i
    · rw [if_pos ⟨rfl, e3⟩, if_pos ⟨by omega, by omega⟩, if_pos (by omega)]
    · rw [if_neg (fun x => e3 x.2)]
      by_cases e2 : 257 * (s : Int) ≤ q ∧ q < 257 * (s : Int) + 257
      · rw [if_pos e2, if_neg (by omega)]
        exact congrArg (m 52) (by omega)
      · rw [if_neg e2]
  · rw [mw_ne e, mset_ne e]
theorem mset_mark {m : jM} {s : Nat} {p k v : Int} (hp : p = 257 * (s : Int) + k + 1) (hk : num k) : mset m 52 p v = mw m s (fmark (mR m s) k v) := by
  have h2 : -1 ≤ k ∧ k ≤ 255 := hk
  rw [mset_mw (s := s) (i := k + 1) (by omega) (by omega) (by omega)]
  unfold fmark
  rw [if_pos h2]
theorem and1 (P : Prop) : jand (bI P) 1 = bI P := by rcases bI_c P with e | e <;> rw [e] <;> decide
theorem and0 (P : Prop) : jand (bI P) 0 = 0 := by rcases bI_c P with e | e <;> rw [e] <;> decide
theorem or1 (P : Prop) : jor (bI P) 1 = 1 := by rcases bI_c P with e | e <;> rw [e] <;> decide
theorem or0 (P : Prop) : jor (bI P) 0 = bI P := by rcases bI_c P with e | e <;> rw [e] <;> decide
/-- the check's memory is well -/
def MI (m : jM) : Prop := (∀ s : Nat, s < 8 → rowok (mR m s)) ∧ (∃ w : Nat, w ≤ 60 ∧ m 51 0 = w ∧ ∀ z : Int, 0 ≤ z → z < w → (-1 ≤ m 55 z ∧ m 55 z ≤ 255) ∧ (-2 ≤ m 56 z ∧ m 56 z ≤ 255)) ∧ ∃ c : Nat, c ≤ 8 ∧ m 51 1 = c ∧ ∀ i : Int, 0 ≤ i → i < c → 0 ≤ m 57 i ∧ m 57 i < 8
/-- the ring of kept maps, one more kept -/
def ringM (m : jM) (s : Nat) (m1 : jM) : Prop := ∃ c d : Nat, (d = 0 ∧ c < 8 ∨ d = 1 ∧ c = 7) ∧ m 51 1 = (c : Int) + d ∧ m1 51 1 = (c : Int) + 1 ∧ (∀ i : Int, 0 ≤ i → i < c → m1 57 i = m 57 (i + d) ∧ ∀ z : Int, 0 ≤ z → z < 257 → m1 58 (257 * i + z) = m 58 (257 * (i + d) + z)) ∧ m1 57 c = s ∧ ∀ z : Int, 0 ≤ z → z < 257 → m1 58 (257 * (c : Int) + z) = m 52 (257 * (s : Int) + z)
/-- one map kept, nothing else changed -/
def MKp (m : jM) (s : Nat) (m1 : jM) : Prop := (∀ j : Nat, j ≠ 51 → j ≠ 57 → j ≠ 58 → m1 j = m j) ∧ m1 51 0 = m 51 0 ∧ m1 51 2 = m 51 2 ∧ m1 51 3 = m 51 3 ∧ ringM m s m1
def MSm (m m1 : jM) : Prop := (∀ j : Nat, j ≠ 51 → j ≠ 53 → j ≠ 54 → m1 j = m j) ∧ m1 51 0 = m 51 0 ∧ m1 51 1 = m 51 1
def MW (m : jM) (s : Nat) (f : Int → Int) (m1 : jM) : Prop := (∀ j : Nat, j ≠ 51 → j ≠ 52 → j ≠ 53 → j ≠ 54 → j ≠ 57 → j ≠ 58 → m1 j = m j) ∧ (m1 51 0 = m 51 0 ∧ m1 51 2 = m 51 2) ∧ ringM m s m1 ∧ eqR (mR m1 s) f ∧ ∀ t : Nat, t < 8 → t ≠ s → eqR (mR m1 t) (mR m t)
theorem mR_52 {m m1 : jM} (h : m1 52 = m 52) (s : Nat) : mR m1 s = mR m s := by
  unfold mR
  rw [h]
theorem mw_off {m : jM} {s : Nat} {f : Int → Int} {j : Nat} (h : j ≠ 52) : mw m s f j = m j := mw_ne h
theorem MW_of {m m2 m3 : jM} {s : Nat} {f : Int → Int} (h : MKp m s m2) (e : m3 = mw m2 s f) : MW m s f m3 := by
  obtain ⟨h1, h2, h3, h4, h5⟩ := h
  subst e
  refine ⟨fun j a b c d e g => by rw [mw_ne b, h1 j a e g], ⟨by rw [mw_ne (by decide), h2], by rw [mw_ne (by decide), h3]⟩, ?_, mR_mw m2 s f, fun t t1 t2 => fun z z0 z1 => ?_⟩
  · obtain ⟨c, d, h6, h7, h8, h9, h10, h11⟩ := h5
    exact ⟨c, d, h6, h7, by rw [mw_ne (by decide), h8], fun i a b => by rw [mw_ne (by decide), mw_ne (by decide)]; exact h9 i a b, by rw [mw_ne (by decide), h10], fun z a b => by rw [mw_ne (by decide)]; exact h11 z a b⟩
  · rw [mR_mw_ne t2 z z0 z1]
    show m2 52 _ = m 52 _
    rw [h1 52 (by decide) (by decide) (by decide)]
theorem MI_keep {m m2 : jM} {s : Nat} (hs : s < 8) (hI : MI m) (h : MKp m s m2) : MI m2 := by
  obtain ⟨h1, h2, h3, h4, c, d, h6, h7, h8, h9, h10, h11⟩ := h
  obtain ⟨i1, ⟨w, i2, i3, i4⟩, k, i5, i6, i7⟩ := hI
  refine ⟨fun t ht => by rw [mR_52 (h1 52 (by decide) (by decide) (by decide))]; exact i1 t ht, ⟨w, i2, by rw [h2]; exact i3, fun z a b => by rw [h1 55 (by decide) (by decide) (by decide), h1 56 (by decide) (by decide) (by decide)]; exact i4 z a b⟩, c + 1, by omega, by rw [h8]; omega, fun i a b => ?_⟩
  by_cases e : i = c
  · rw [e, h10]; omega
  · rw [(h9 i a (by omega)).1]
    exact i7 (i + d) (by omega) (by omega)
theorem MI_row {m : jM} {s : Nat} (hI : MI m) {f : Int → Int} (hf : rowok f) : MI (mw m s f) := by
  obtain ⟨i1, ⟨w, i2, i3, i4⟩, k, i5, i6, i7⟩ := hI
  refine ⟨fun t ht => ?_, ⟨w, i2, by rw [mw_ne (by decide)]; exact i3, fun z a b => by rw [mw_ne (by decide), mw_ne (by decide)]; exact i4 z a b⟩, k, i5, by rw [mw_ne (by decide)]; exact i6, fun i a b => by rw [mw_ne (by decide)]; exact i7 i a b⟩
  by_cases e : t = s
  · subst e
    intro z a b
    rw [mR_mw m t f z a b]
    exact hf z a b
  · intro z a b
    rw [mR_mw_ne e z a b]
    exact i1 t ht z a b
theorem MI_of {m m1 : jM} (hI : MI m) (h : ∀ j : Nat, j ≠ 51 → j ≠ 53 → j ≠ 54 → m1 j = m j) (h0 : m1 51 0 = m 51 0) (h1 : m1 51 1 = m 51 1) : MI m1 := by
  obtain ⟨i1, ⟨w, i2, i3, i4⟩, k, i5, i6, i7⟩ := hI
  exact ⟨fun t ht => by rw [mR_52 (h 52 (by decide) (by decide) (by decide))]; exact i1 t ht, ⟨w, i2, by rw [h0]; exact i3, fun z a b => by rw [h 55 (by decide) (by decide) (by decide), h 56 (by decide) (by decide) (by decide)]; exact i4 z a b⟩, k, i5, by rw [h1]; exact i6, fun i a b => by rw [h 57 (by decide) (by decide) (by decide)]; exact i7 i a b⟩
theorem MSm_rfl (m : jM) : MSm m m := ⟨fun _ _ _ _ => rfl, rfl, rfl⟩
theorem MSm_trans {m m1 m2 : jM} (a : MSm m m1) (b : MSm m1 m2) : MSm m m2 := ⟨fun j x y z => (b.1 j x y z).trans (a.1 j x y z), b.2.1.trans a.2.1, b.2.2.trans a.2.2⟩
theorem MSm_row {m : jM} {j : Nat} (h : j = 53 ∨ j = 54) (f : Int → Int) : MSm m (mrow m j f) := ⟨fun i a b c => mrow_ne (by omega), by rw [mrow_ne (by omega)], by rw [mrow_ne (by omega)]⟩
theorem MSm_code (m : jM) {k : Int} (h : k = 2 ∨ k = 3) (v : Int) : MSm m (mset m 51 k v) := ⟨fun i a b c => mset_ne a, by rw [mset_off (by omega)], by rw [mset_off (by omega)]⟩
theorem MI_S {m m1 : jM} (hI : MI m) (h : MSm m m1) : MI m1 := MI_of hI h.1 h.2.1 h.2.2
/-- where one comes to a second time, followed from a key; -2 without such -/
noncomputable def againV (f : Int → Int) (k : Int) : Int := if -2 < (wkN f k (fun _ => 0) (per f k)).1 ∧ 0 < (wkN f k (fun _ => 0) (per f k)).2 ((wkN f k (fun _ => 0) (per f k)).1 + 1) then (wkN f k (fun _ => 0) (per f k)).1 else -2
/-- the ring shifted: so many slots, so many numbers -/
def kS (m : jM) (a b : Nat) : jM := mrow (mrow m 57 (upto (fun z => m 57 (z + 1)) (m 57) a)) 58 (upto (fun p => m 58 (p + 257)) (m 58) b)
theorem kS_ne {m : jM} {a b j : Nat} (h1 : j ≠ 57) (h2 : j ≠ 58) : kS m a b j = m j := by
  unfold kS
  rw [mrow_ne h2, mrow_ne h1]
theorem kS_57 (m : jM) (a b : Nat) : kS m a b 57 = upto (fun z => m 57 (z + 1)) (m 57) a := by
  unfold kS
  rw [mrow_ne (by decide), mrow_at]
theorem kS_58 (m : jM) (a b : Nat) : kS m a b 58 = upto (fun p => m 58 (p + 257)) (m 58) b := mrow_at _ _ _
theorem kS_0 (m : jM) : kS m 0 0 = m := by
  unfold kS
  rw [show ((0 : Nat) : Int) = 0 from rfl, upto_0, upto_0, mrow_self, mrow_self]
theorem kS_slot {m : jM} {j b : Nat} {z x : Int} (hz : z = j) (hx : x = m 57 ((j : Int) + 1)) : mset (kS m j b) 57 z x = kS m (j + 1) b := by
  subst hz; subst hx
  rw [mset_row, kS_57, upto_put (g := fun z => m 57 (z + 1)) (f := m 57) (i := j) (v := m 57 ((j : Int) + 1)) rfl]
  unfold kS
  rw [mrow_comm (j := 58) (i := 57) (by decide), mrow_mrow]
theorem kS_cell {m : jM} {a b : Nat} {p x : Int} (hp : p = b) (hx : x = m 58 ((b : Int) + 257)) : mset (kS m a b) 58 p x = kS m a (b + 1) := by
  subst hp; subst hx
  rw [mset_row, kS_58, upto_put (g := fun p => m 58 (p + 257)) (f := m 58) (i := b) (v := m 58 ((b : Int) + 257)) rfl]
  unfold kS
  rw [mrow_mrow]
theorem mw_step {m : jM} {s i : Nat} {g f : Int → Int} {p v : Int} (hp : p = 257 * (s : Int) + i) (hi : i < 257) (hv : v = g i) : mset (mw m s (upto g f i)) 52 p v = mw m s (upto g f ((i + 1 : Nat) : Int)) := by
  rw [mset_mw hp (by omega) (by omega), mw_mw]
  refine mw_congr (fun z z0 z1 => ?_)
  rw [← upto_put hv]
  show (if z = (i : Int) then v else mR (mw m s (upto g f i)) s z) = if z = (i : Int) then v else upto g f i z
  rw [mR_mw m s _ z z0 z1]
/-- the last place filled, number by number -/
def kL (m m2 : jM) (c s i : Nat) : jM := mrow (mset m2 57 c s) 58 (fun p => if 257 * (c : Int) ≤ p ∧ p < 257 * (c : Int) + i then m 52 (257 * (s : Int) + (p - 257 * (c : Int))) else m2 58 p)
theorem kL_0 (m m2 : jM) (c s : Nat) : kL m m2 c s 0 = mset m2 57 c s := by
  unfold kL
  have e : (fun p => if 257 * (c : Int) ≤ p ∧ p < 257 * (c : Int) + ((0 : Nat) : Int) then m 52 (257 * (s : Int) + (p - 257 * (c : Int))) else m2 58 p) = (mset m2 57 c s) 58 := by
    funext p
    rw [if_neg (by omega), mset_ne (by decide)]
  rw [e, mrow_self]
theorem kL_s {m m2 : jM} {c s i : Nat} {p x : Int} (hp : p = 257 * (c : Int) + i) (hx : x = m 52 (257 * (s : Int) + i)) : mset (kL m m2 c s i) 58 p x = kL m m2 c s (i + 1) := by
  subst hp; subst hx
  rw [mset_row]
  unfold kL
  rw [mrow_mrow, mrow_at]
  refine mrow_ext ?_
  funext p
  show (if p = 257 * (c : Int) + i then m 52 (257 * (s : Int) + i) else if 257 * (c : Int) ≤ p ∧ p < 257 * (c : Int) + i then m 52 (257 * (s : Int) + (p - 257 * (c : Int))) else m2 58 p) = if 257 * (c : Int) ≤ p ∧ p < 257 * (c : Int) + ((i + 1 : Nat) : Int) then m 52 (257 * (s : Int) + (p - 257 * (c : Int))) else m2 58 p
  by_cases e : p = 257 * (c : Int) + i
  · rw [if_pos e, if_pos (by omega)]
    exact congrArg (m 52) (by omega)
  · rw [if_neg e]
    by_cases e2 : 257 * (c : Int) ≤ p ∧ p < 257 * (c : Int) + i
    · rw [if_pos e2, if_pos (by omega)]
    · rw [if_neg e2, if_neg (by omega)]
theorem kL_ne {m m2 : jM} {c s i j : Nat} (h1 : j ≠ 57) (h2 : j ≠ 58) : kL m m2 c s i j = m2 j := by
  unfold kL
  rw [mrow_ne h2, mset_ne h1]
theorem kL_57 (m m2 : jM) (c s i : Nat) (z : Int) : kL m m2 c s i 57 z = if z = c then (s : Int) else m2 57 z := by
  unfold kL
  rw [mrow_ne (by decide)]
  by_cases e : z = c
  · rw [if_pos e, e, mset_at]
  · rw [if_neg e, mset_off e]
theorem kL_58 (m m2 : jM) (c s i : Nat) (p : Int) : kL m m2 c s i 58 p = if 257 * (c : Int) ≤ p ∧ p < 257 * (c : Int) + i then m 52 (257 * (s : Int) + (p - 257 * (c : Int))) else m2 58 p := by
  unfold kL
  rw [mrow_at]
/-- kept: what the ring holds then -/
theorem keep_all {m m2 m3 : jM} {c d s : Nat} (hc : d = 0 ∧ c < 8 ∨ d = 1 ∧ c = 7) (h1 : m 51 1 = (c : Int) + d) (h3 : ∀ j : Nat, j ≠ 51 → j ≠ 57 → j ≠ 58 → m2 j = m j) (h4 : m2 51 0 = m 51 0) (h5 : m2 51 2 = m 51 2) (h6 : m2 51 3 = m 51 3) (h7 : ∀ i : Int, 0 ≤ i → i < c → m2 57 i = m 57 (i + d)) (h8 : ∀ p : Int, 0 ≤ p → p < 257 * (c : Int) → m2 58 p = m 58 (p + 257 * (d : Int))) (e : m3 = mset (kL m m2 c s 257) 51 1 ((c : Int) + 1)) : MKp m s m3 := by
  subst e
  refine ⟨fun j a b c2 => by rw [mset_ne a, kL_ne b c2, h3 j a b c2], by rw [mset_off (by decide), kL_ne (by decide) (by decide), h4], by rw [mset_off (by decide), kL_ne (by decide) (by decide), h5], by rw [mset_off (by decide), kL_ne (by decide) (by decide), h6], c, d, hc, h1, mset_at _ _ _ _, fun i a b => ⟨?_, fun z z0 z1 => ?_⟩, ?_, fun z z0 z1 => ?_⟩
  · rw [mset_ne (by decide), kL_57, if_neg (by omega), h7 i a b]
  · rw [mset_ne (by decide), kL_58, if_neg (by omega), h8 _ (by omega) (by omega)]
    exact congrArg (m 58) (by rw [Int.mul_add]; omega)
  · rw [mset_ne (by decide), kL_57, if_pos rfl]
  · rw [mset_ne (by decide), kL_58, if_pos (by omega)]
    exact congrArg (m 52) (by omega)
theorem wr_mod {a : Int} (h : 0 ≤ a ∧ a ≤ 510) : a.tmod 256 = wr a := by
  rw [Int.tmod_eq_emod_of_nonneg h.1]
  unfold wr
  split <;> omega
theorem MW_eq {m m1 : jM} {s : Nat} {f g : Int → Int} (h : MW m s f m1) (e : eqR f g) : MW m s g m1 := ⟨h.1, h.2.1, h.2.2.1, eqR_trans h.2.2.2.1 e, h.2.2.2.2⟩
theorem MW_if {m m1 : jM} {s : Nat} {f g : Int → Int} {P : Prop} [Decidable P] (h1 : P → MW m s f m1) (h2 : ¬ P → MW m s g m1) : MW m s (if P then f else g) m1 := by
  by_cases e : P
  · rw [if_pos e]; exact h1 e
  · rw [if_neg e]; exact h2 e
/-- row s as g tells below i -/
theorem mw_mark {m : jM} {s i : Nat} {g f : Int → Int} {k v : Int} (hv : v = g i) (hk : k = i - 1) (hi : i < 257) : mw (mw m s (upto g f i)) s (fmark (mR (mw m s (upto g f i)) s) k v) = mw m s (upto g f ((i + 1 : Nat) : Int)) := by
  rw [mw_mw]
  refine mw_congr (fun z z0 z1 => ?_)
  rw [← upto_mark (f := f) hv hk (show ((i + 1 : Nat) : Int) = i + 1 by omega) (by omega) (by omega)]
  have h2 : -1 ≤ k ∧ k ≤ 255 := by omega
  unfold fmark
  rw [if_pos h2, if_pos h2]
  show (if z = k + 1 then v else mR (mw m s (upto g f i)) s z) = if z = k + 1 then v else upto g f i z
  rw [mR_mw m s _ z z0 z1]
theorem mw_skip {m : jM} {s i : Nat} {g f : Int → Int} (h : g i = f i) : mw m s (upto g f i) = mw m s (upto g f ((i + 1 : Nat) : Int)) := by
  rw [upto_skip h (show ((i + 1 : Nat) : Int) = i + 1 by omega) (by omega)]
theorem mw_0 (m : jM) (s : Nat) (g : Int → Int) : mw m s (upto g (mR m s) ((0 : Nat) : Int)) = m := by
  rw [show ((0 : Nat) : Int) = 0 from rfl, upto_0, mw_self]
theorem mw_at {m : jM} {s i : Nat} {g f : Int → Int} (hi : i < 257) : mR (mw m s (upto g f i)) s i = f i := by
  rw [mR_mw m s _ i (by omega) (by omega), upto_at (Int.le_refl _)]
theorem mw_end {m m1 : jM} {s : Nat} {g f : Int → Int} {n : Int} (hn : n = 257) (h : m1 = mw m s (upto g f n)) : eqR (mR m1 s) g := by
  subst hn
  intro z z0 z1
  rw [h, mR_mw m s _ z z0 z1]
  exact upto_all z z0 z1
theorem MW_end {m m2 m1 : jM} {s : Nat} {g f : Int → Int} {n : Int} (hn : n = 257) (hk : MKp m s m2) (h : m1 = mw m2 s (upto g f n)) : MW m s g m1 := by
  subst hn
  exact MW_eq (MW_of hk h) upto_all
theorem m_52 {m m1 : jM} {s : Nat} (h : MKp m s m1) : m1 52 = m 52 := h.1 52 (by decide) (by decide) (by decide)
theorem bI_if {P Q : Prop} [Decidable Q] (h : P ↔ Q) : bI P = if Q then 1 else 0 := by
  by_cases e : Q
  · rw [if_pos e]; exact bI_t (h.mpr e)
  · rw [if_neg e]; exact bI_f (fun p => e (h.mp p))
theorem ex_s {P : Int → Prop} {i : Nat} (h : P i) : bI (∃ z : Int, 0 ≤ z ∧ z < ((i + 1 : Nat) : Int) ∧ P z) = 1 := bI_t ⟨i, by omega, by omega, h⟩
theorem ex_n {P : Int → Prop} {i : Nat} (h : ¬ P i) : bI (∃ z : Int, 0 ≤ z ∧ z < ((i + 1 : Nat) : Int) ∧ P z) = bI (∃ z : Int, 0 ≤ z ∧ z < i ∧ P z) := by
  refine bI_iff ⟨fun ⟨z, a, b, c⟩ => ⟨z, a, ?_, c⟩, fun ⟨z, a, b, c⟩ => ⟨z, a, by omega, c⟩⟩
  rcases Int.lt_or_le z i with q | q
  · exact q
  · rw [show z = (i : Int) by omega] at c
    exact absurd c h
theorem al_s {P : Int → Prop} {i : Nat} (h : P i) : bI (∀ z : Int, 0 ≤ z → z < ((i + 1 : Nat) : Int) → P z) = bI (∀ z : Int, 0 ≤ z → z < i → P z) := by
  refine bI_iff ⟨fun q z a b => q z a (by omega), fun q z a b => ?_⟩
  rcases Int.lt_or_le z i with y | y
  · exact q z a y
  · rw [show z = (i : Int) by omega]
    exact h
theorem al_n {P : Int → Prop} {i : Nat} (h : ¬ P i) : bI (∀ z : Int, 0 ≤ z → z < ((i + 1 : Nat) : Int) → P z) = 0 := bI_f (fun q => h (q i (by omega) (by omega)))
theorem jand_t {a : Int} (h : 0 ≤ a ∧ a ≤ 255) : jand a 1 = a.tmod 2 := by
  rw [jand_1 h.1 (by omega), Int.tmod_eq_emod_of_nonneg h.1]
theorem ringM_of {m m0 m1 : jM} {s : Nat} (h : ringM m0 s m1) (h1 : m0 51 1 = m 51 1) (h2 : m0 57 = m 57) (h3 : m0 58 = m 58) (h4 : m0 52 = m 52) : ringM m s m1 := by
  obtain ⟨c, d, h6, h7, h8, h9, h10, h11⟩ := h
  exact ⟨c, d, h6, by rw [← h1]; exact h7, h8, fun i a b => by rw [← h2, ← h3]; exact h9 i a b, h10, fun z a b => by rw [← h4]; exact h11 z a b⟩
theorem MW_made {m m1 : jM} {s : Nat} {f g : Int → Int} (h : MW (mrow m 53 g) s f m1) : MW m s f m1 := by
  obtain ⟨h1, h2, h3, h4, h5⟩ := h
  refine ⟨fun j a b c d e k => by rw [h1 j a b c d e k, mrow_ne c], by rw [mrow_ne (by decide)] at h2; exact h2, ringM_of h3 (by rw [mrow_ne (by decide)]) (mrow_ne (by decide)) (mrow_ne (by decide)) (mrow_ne (by decide)), h4, fun t t1 t2 => ?_⟩
  have e := h5 t t1 t2
  rw [mR_52 (m1 := mrow m 53 g) (m := m) (mrow_ne (by decide))] at e
  exact e

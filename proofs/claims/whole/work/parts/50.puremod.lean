/-! PURE WORDS of the check's own maps: rows in one array -/
def mR (m : jM) (s : Nat) : Int → Int := fun z => m 52 (257 * (s : Int) + z)
def mK (m : jM) (i : Nat) : Int → Int := fun z => m 58 (257 * (i : Int) + z)
/-- a map's row written anew -/
def mw (m : jM) (s : Nat) (f : Int → Int) : jM := fun j => if j = 52 then (fun p => if 257 * (s : Int) ≤ p ∧ p < 257 * (s : Int) + 257 then f (p - 257 * (s : Int)) else m 52 p) else m j
theorem mw_ne {m : jM} {s j : Nat} {f : Int → Int} (h : j ≠ 52) : mw m s f j = m j := if_neg h
theorem mw_52 (m : jM) (s : Nat) (f : Int → Int) (p : Int) : mw m s f 52 p = if 257 * (s : Int) ≤ p ∧ p < 257 * (s : Int) + 257 then f (p - 257 * (s : Int)) else m 52 p := by
  unfold mw
  rw [if_pos rfl]
theorem mR_mw (m : jM) (s : Nat) (f : Int → Int) : eqR (mR (mw m s f) s) f := by
  intro z h0 h1
  show mw m s f 52 (257 * (s : Int) + z) = f z
  rw [mw_52, if_pos ⟨by omega, by omega⟩]
  exact congrArg f (by omega)
theorem mR_mw_ne {m : jM} {s t : Nat} {f : Int → Int} (h : t ≠ s) : eqR (mR (mw m s f) t) (mR m t) := by
  intro z h0 h1
  show mw m s f 52 (257 * (t : Int) + z) = m 52 (257 * (t : Int) + z)
  rw [mw_52, if_neg (by omega)]
theorem mw_mw (m : jM) (s : Nat) (f g : Int → Int) : mw (mw m s f) s g = mw m s g := by
  funext j
  by_cases e : j = 52
  · subst e
    funext p
    rw [mw_52, mw_52, mw_52]
    by_cases e2 : 257 * (s : Int) ≤ p ∧ p < 257 * (s : Int) + 257
    · rw [if_pos e2, if_pos e2]
    · rw [if_neg e2, if_neg e2, if_neg e2]
  · rw [mw_ne e, mw_ne e, mw_ne e]
theorem mw_self (m : jM) (s : Nat) : mw m s (mR m s) = m := by
  funext j
  by_cases e : j = 52
  · subst e
    funext p
    rw [mw_52]
    by_cases e2 : 257 * (s : Int) ≤ p ∧ p < 257 * (s : Int) + 257
    · rw [if_pos e2]
      show m 52 (257 * (s : Int) + (p - 257 * (s : Int))) = m 52 p
      exact congrArg (m 52) (by omega)
    · rw [if_neg e2]
  · rw [mw_ne e]
theorem mw_congr {m : jM} {s : Nat} {f g : Int → Int} (h : eqR f g) : mw m s f = mw m s g := by
  funext j
  by_cases e : j = 52
  · subst e
    funext p
    rw [mw_52, mw_52]
    by_cases e2 : 257 * (s : Int) ≤ p ∧ p < 257 * (s : Int) + 257
    · rw [if_pos e2, if_pos e2, h _ (by omega) (by omega)]
    · rw [if_neg e2, if_neg e2]
  · rw [mw_ne e, mw_ne e]
theorem mset_mw {m : jM} {s : Nat} {p i v : Int} (hp : p = 257 * (s : Int) + i) (h0 : 0 ≤ i) (h1 : i < 257) : mset m 52 p v = mw m s (fun z => if z = i then v else mR m s z) := by
  subst hp
  funext j
  by_cases e : j = 52
  · subst e
    funext q
    rw [mw_52]
    unfold mset mR
    by_cases e3 : q = 257 * (s : Int) + i
    · rw [if_pos ⟨rfl, e3⟩, if_pos ⟨by omega, by omega⟩, if_pos (by omega)]
    · rw [if_neg (fun x => e3 x.2)]
      by_cases e2 : 257 * (s : Int) ≤ q ∧ q < 257 * (s : Int) + 257
      · rw [if_pos e2, if_neg (by omega)]
        exact congrArg (m 52) (by omega)
      · rw [if_neg e2]
  · rw [mw_ne e, mset_ne e]
theorem mset_mark {m : jM} {s : Nat} {p k v : Int} (hp : p = 257 * (s : Int) + k + 1) (hk : num k) : mset m 52 p v = mw m s (fmark (mR m s) k v) := by
  have h2 : -1 ≤ k ∧ k ≤ 255 := hk
  rw [mset_mw (s := s) (i := k + 1) (by omega) (by omega) (by omega)]
  unfold fmark
  rw [if_pos h2]
theorem and1 (P : Prop) : jand (bI P) 1 = bI P := by rcases bI_c P with e | e <;> rw [e] <;> decide
theorem and0 (P : Prop) : jand (bI P) 0 = 0 := by rcases bI_c P with e | e <;> rw [e] <;> decide
theorem or1 (P : Prop) : jor (bI P) 1 = 1 := by rcases bI_c P with e | e <;> rw [e] <;> decide
theorem or0 (P : Prop) : jor (bI P) 0 = bI P := by rcases bI_c P with e | e <;> rw [e] <;> decide
/-- the check's memory is well -/
def MI (m : jM) : Prop := (∀ s : Nat, s < 8 → rowok (mR m s)) ∧ (∃ w : Nat, w ≤ 60 ∧ m 51 0 = w ∧ ∀ z : Int, 0 ≤ z → z < w → (-1 ≤ m 55 z ∧ m 55 z ≤ 255) ∧ (-2 ≤ m 56 z ∧ m 56 z ≤ 255)) ∧ ∃ c : Nat, c ≤ 8 ∧ m 51 1 = c ∧ ∀ i : Int, 0 ≤ i → i < c → 0 ≤ m 57 i ∧ m 57 i < 8
/-- the ring of kept maps, one more kept -/
def ringM (m : jM) (s : Nat) (m1 : jM) : Prop := ∃ c d : Nat, (d = 0 ∧ c < 8 ∨ d = 1 ∧ c = 7) ∧ m 51 1 = (c : Int) + d ∧ m1 51 1 = (c : Int) + 1 ∧ (∀ i : Int, 0 ≤ i → i < c → m1 57 i = m 57 (i + d) ∧ ∀ z : Int, 0 ≤ z → z < 257 → m1 58 (257 * i + z) = m 58 (257 * (i + d) + z)) ∧ m1 57 c = s ∧ ∀ z : Int, 0 ≤ z → z < 257 → m1 58 (257 * (c : Int) + z) = m 52 (257 * (s : Int) + z)
/-- one map kept, nothing else changed -/
def MKp (m : jM) (s : Nat) (m1 : jM) : Prop := (∀ j : Nat, j ≠ 51 → j ≠ 57 → j ≠ 58 → m1 j = m j) ∧ m1 51 0 = m 51 0 ∧ m1 51 2 = m 51 2 ∧ m1 51 3 = m 51 3 ∧ ringM m s m1
def MSm (m m1 : jM) : Prop := (∀ j : Nat, j ≠ 51 → j ≠ 53 → j ≠ 54 → m1 j = m j) ∧ m1 51 0 = m 51 0 ∧ m1 51 1 = m 51 1
def MW (m : jM) (s : Nat) (f : Int → Int) (m1 : jM) : Prop := (∀ j : Nat, j ≠ 51 → j ≠ 52 → j ≠ 53 → j ≠ 54 → j ≠ 57 → j ≠ 58 → m1 j = m j) ∧ m1 51 0 = m 51 0 ∧ ringM m s m1 ∧ eqR (mR m1 s) f ∧ ∀ t : Nat, t < 8 → t ≠ s → eqR (mR m1 t) (mR m t)
theorem mR_52 {m m1 : jM} (h : m1 52 = m 52) (s : Nat) : mR m1 s = mR m s := by
  unfold mR
  rw [h]
theorem mw_off {m : jM} {s : Nat} {f : Int → Int} {j : Nat} (h : j ≠ 52) : mw m s f j = m j := mw_ne h
theorem MW_of {m m2 m3 : jM} {s : Nat} {f : Int → Int} (h : MKp m s m2) (e : m3 = mw m2 s f) : MW m s f m3 := by
  obtain ⟨h1, h2, h3, h4, h5⟩ := h
  subst e
  refine ⟨fun j a b c d e g => by rw [mw_ne b, h1 j a e g], by rw [mw_ne (by decide), h2], ?_, mR_mw m2 s f, fun t t1 t2 => fun z z0 z1 => ?_⟩
  · obtain ⟨c, d, h6, h7, h8, h9, h10, h11⟩ := h5
    exact ⟨c, d, h6, h7, by rw [mw_ne (by decide), h8], fun i a b => by rw [mw_ne (by decide), mw_ne (by decide)]; exact h9 i a b, by rw [mw_ne (by decide), h10], fun z a b => by rw [mw_ne (by decide)]; exact h11 z a b⟩
  · rw [mR_mw_ne t2 z z0 z1]
    show m2 52 _ = m 52 _
    rw [h1 52 (by decide) (by decide) (by decide)]
theorem MI_keep {m m2 : jM} {s : Nat} (hs : s < 8) (hI : MI m) (h : MKp m s m2) : MI m2 := by
  obtain ⟨h1, h2, h3, h4, c, d, h6, h7, h8, h9, h10, h11⟩ := h
  obtain ⟨i1, ⟨w, i2, i3, i4⟩, k, i5, i6, i7⟩ := hI
  refine ⟨fun t ht => by rw [mR_52 (h1 52 (by decide) (by decide) (by decide))]; exact i1 t ht, ⟨w, i2, by rw [h2]; exact i3, fun z a b => by rw [h1 55 (by decide) (by decide) (by decide), h1 56 (by decide) (by decide) (by decide)]; exact i4 z a b⟩, c + 1, by omega, by rw [h8]; omega, fun i a b => ?_⟩
  by_cases e : i = c
  · rw [e, h10]; omega
  · rw [(h9 i a (by omega)).1]
    exact i7 (i + d) (by omega) (by omega)
theorem MI_row {m : jM} {s : Nat} (hI : MI m) {f : Int → Int} (hf : rowok f) : MI (mw m s f) := by
  obtain ⟨i1, ⟨w, i2, i3, i4⟩, k, i5, i6, i7⟩ := hI
  refine ⟨fun t ht => ?_, ⟨w, i2, by rw [mw_ne (by decide)]; exact i3, fun z a b => by rw [mw_ne (by decide), mw_ne (by decide)]; exact i4 z a b⟩, k, i5, by rw [mw_ne (by decide)]; exact i6, fun i a b => by rw [mw_ne (by decide)]; exact i7 i a b⟩
  by_cases e : t = s
  · subst e
    intro z a b
    rw [mR_mw m t f z a b]
    exact hf z a b
  · intro z a b
    rw [mR_mw_ne e z a b]
    exact i1 t ht z a b
theorem MI_of {m m1 : jM} (hI : MI m) (h : ∀ j : Nat, j ≠ 51 → j ≠ 53 → j ≠ 54 → m1 j = m j) (h0 : m1 51 0 = m 51 0) (h1 : m1 51 1 = m 51 1) : MI m1 := by
  obtain ⟨i1, ⟨w, i2, i3, i4⟩, k, i5, i6, i7⟩ := hI
  exact ⟨fun t ht => by rw [mR_52 (h 52 (by decide) (by decide) (by decide))]; exact i1 t ht, ⟨w, i2, by rw [h0]; exact i3, fun z a b => by rw [h 55 (by decide) (by decide) (by decide), h 56 (by decide) (by decide) (by decide)]; exact i4 z a b⟩, k, i5, by rw [h1]; exact i6, fun i a b => by rw [h 57 (by decide) (by decide) (by decide)]; exact i7 i a b⟩
theorem MSm_rfl (m : jM) : MSm m m := ⟨fun _ _ _ _ => rfl, rfl, rfl⟩
theorem MSm_trans {m m1 m2 : jM} (a : MSm m m1) (b : MSm m1 m2) : MSm m m2 := ⟨fun j x y z => (b.1 j x y z).trans (a.1 j x y z), b.2.1.trans a.2.1, b.2.2.trans a.2.2⟩
theorem MSm_row {m : jM} {j : Nat} (h : j = 53 ∨ j = 54) (f : Int → Int) : MSm m (mrow m j f) := ⟨fun i a b c => mrow_ne (by omega), by rw [mrow_ne (by omega)], by rw [mrow_ne (by omega)]⟩
theorem MSm_code (m : jM) {k : Int} (h : k = 2 ∨ k = 3) (v : Int) : MSm m (mset m 51 k v) := ⟨fun i a b c => mset_ne a, by rw [mset_off (by omega)], by rw [mset_off (by omega)]⟩
theorem MI_S {m m1 : jM} (hI : MI m) (h : MSm m m1) : MI m1 := MI_of hI h.1 h.2.1 h.2.2

/-! PURE WORDS of the class's calls: what they ask, what they answer, how the rows come out -/
abbrev wayM (h : Int) : Prop := h = 43 ∨ h = 62 ∨ h = 120
abbrev wayC (h : Int) : Prop := h = 105 ∨ h = 100 ∨ h = 102 ∨ h = 112
theorem mergeV_b {a v h : Int} (ha : -2 ≤ a ∧ a ≤ 255) (hv : 0 ≤ v ∧ v ≤ 255) : -2 ≤ mergeV a v h ∧ mergeV a v h ≤ 255 := by
  unfold mergeV wr
  split
  · omega
  · split
    · split <;> omega
    · split
      · split <;> omega
      · omega
theorem doubledV_b {a : Int} (ha : -2 ≤ a ∧ a ≤ 255) : -2 ≤ doubledV a ∧ doubledV a ≤ 255 := by
  unfold doubledV wr
  split
  · omega
  · split
    · omega
    · split <;> omega
theorem computeV_b {a k h : Int} (ha : -2 ≤ a ∧ a ≤ 255) (hk : num k) : -2 ≤ computeV a k h ∧ computeV a k h ≤ 255 := by
  unfold num at hk
  have := doubledV_b ha
  unfold computeV wr mx0
  split
  · split
    · omega
    · split <;> omega
  · split
    · split <;> omega
    · split
      · split
        · split <;> omega
        · omega
      · exact this
theorem rowok_if {f : Int → Int} {p : Int → Prop} [∀ z, Decidable (p z)] (h : rowok f) : rowok (fun z => if p z then -2 else f z) := by
  intro z h0 h1
  have := h z h0 h1
  show -2 ≤ (if p z then -2 else f z) ∧ (if p z then -2 else f z) ≤ 255
  split <;> omega
theorem rowok_if2 {f : Int → Int} {p : Int → Prop} [∀ z, Decidable (p z)] (h : rowok f) : rowok (fun z => if p z then f z else -2) := by
  intro z h0 h1
  have := h z h0 h1
  show -2 ≤ (if p z then f z else -2) ∧ (if p z then f z else -2) ≤ 255
  split <;> omega
theorem rowok_if3 {f g : Int → Int} {p : Int → Prop} [∀ z, Decidable (p z)] (h : rowok f) (h2 : rowok g) : rowok (fun z => if p z then f z else g z) := by
  intro z h0 h1
  have := h z h0 h1
  have := h2 z h0 h1
  show -2 ≤ (if p z then f z else g z) ∧ (if p z then f z else g z) ≤ 255
  split <;> omega
theorem shift_ok {f : Int → Int} {b : Int} (h : rowok f) (hb : 0 ≤ b ∧ b ≤ 255) : rowok (fun z => if f z < 0 then f z else wr (f z + b)) := by
  intro z h0 h1
  have := h z h0 h1
  unfold wr
  show -2 ≤ (if f z < 0 then f z else if 255 < f z + b then f z + b - 256 else f z + b) ∧ (if f z < 0 then f z else if 255 < f z + b then f z + b - 256 else f z + b) ≤ 255
  split
  · omega
  · split <;> omega
theorem fmark_at {f : Int → Int} {k v : Int} (h : num k) : tat (fmark f k v) k = v := by
  have h2 : -1 ≤ k ∧ k ≤ 255 := h
  rw [tat_in h]
  unfold fmark
  rw [if_pos h2, if_pos rfl]
/-- after a mark, or none -/
theorem CW_if {m m1 : jM} {s : Nat} {f g : Int → Int} {P : Prop} [Decidable P] (h1 : P → CW m s f m1) (h2 : ¬ P → CW m s g m1) : CW m s (if P then f else g) m1 := by
  by_cases e : P
  · rw [if_pos e]; exact h1 e
  · rw [if_neg e]; exact h2 e
/-- the row of words written anew -/
def CR (m : jM) (w : Nat) (K V : Int → Int) (m1 : jM) : Prop := CI m1 ∧ (∀ j : Nat, ¬ garb j → j ≠ 40 → j ≠ 41 → j ≠ 42 → m1 j = m j) ∧ m1 40 0 = w ∧ ∀ z : Int, 0 ≤ z → z < w → m1 41 z = K z ∧ m1 42 z = V z
theorem CR_of {m m1 : jM} (h : CI m) {w : Nat} {K V : Int → Int} (hw : w ≤ 60) (h0 : ∀ j : Nat, ¬ garb j → j ≠ 40 → j ≠ 41 → j ≠ 42 → m1 j = m j) (ht : ∀ j : Nat, j < 38 → m1 j = m j) (h1 : m1 40 0 = w) (h2 : ∀ z : Int, 0 ≤ z → z < w → m1 41 z = K z ∧ m1 42 z = V z) (hk : ∀ z : Int, 0 ≤ z → z < w → (-1 ≤ K z ∧ K z ≤ 255) ∧ (-2 ≤ V z ∧ V z ≤ 255)) : CR m w K V m1 := by
  refine ⟨⟨fun t t1 => ?_, ⟨w, h1, hw, fun z z0 z1 => ?_⟩, ?_, ?_, ?_⟩, h0, h1, h2⟩
  · unfold tok
    rw [ht t (by omega), ht (19 + t) (by omega)]
    exact h.1 t t1
  · obtain ⟨a, b⟩ := h2 z z0 z1
    rw [a, b]
    exact hk z z0 z1
  · rw [h0 45 (by unfold garb; omega) (by decide) (by decide) (by decide)]; exact h.2.2.1
  · rw [h0 45 (by unfold garb; omega) (by decide) (by decide) (by decide)]; exact h.2.2.2.1
  · rw [h0 47 (by unfold garb; omega) (by decide) (by decide) (by decide)]; exact h.2.2.2.2
/-- the latest map given back -/
def CB (m m1 : jM) (l s : Nat) : Prop := l < 8 ∧ s < 8 ∧ (m 45 0 + 8 - 1).tmod 8 = l ∧ m 47 l = s ∧ CI m1 ∧ m1 s = m (8 + l) ∧ m1 45 0 = l ∧ m1 45 1 = m 45 1 - 1 ∧ ∀ j : Nat, j ≠ s → j ≠ 19 + s → j ≠ 45 → m1 j = m j
theorem CB_back {m : jM} (h : CI m) {l s : Nat} (hl : l < 8) (hs : s < 8) (h1 : (m 45 0 + 8 - 1).tmod 8 = l) (h2 : m 47 l = s) (h3 : m 45 1 ≠ 0) : CB m (backM m s l) l s := by
  have hc := h.2.2.2.1
  have ho : ∀ j : Nat, j ≠ s → j ≠ 19 + s → j ≠ 45 → backM m s l j = m j := fun j a b c => by
    unfold backM
    rw [mset_ne c, tset_ne a b, mset_ne c]
  have hsr : backM m s l s = m (8 + l) := by
    unfold backM
    rw [mset_ne (by omega), tset_at]
  have hsc : backM m s l (19 + s) 0 = cnt (m (8 + l)) := by
    unfold backM
    rw [mset_ne (by omega), tset_ct]
  have h450 : backM m s l 45 0 = l := by
    unfold backM
    rw [mset_off (by decide), tset_ne (by omega) (by omega), mset_at]
  have h451 : backM m s l 45 1 = m 45 1 - 1 := by
    unfold backM
    rw [mset_at, if_neg (by omega)]
  refine ⟨hl, hs, h1, h2, ⟨fun t t1 => ?_, ?_, ⟨l, hl, h450⟩, by rw [h451]; omega, ?_⟩, hsr, h450, h451, ho⟩
  · by_cases e : t = s
    · subst e
      unfold tok
      rw [hsr, hsc]
      exact ⟨(h.1 (8 + l) (by omega)).1, rfl⟩
    · unfold tok
      rw [ho t e (by omega) (by omega), ho (19 + t) (by omega) (by omega) (by omega)]
      exact h.1 t t1
  · obtain ⟨w, hw⟩ := h.2.1
    refine ⟨w, ?_⟩
    unfold rwok
    rw [ho 40 (by omega) (by omega) (by omega), ho 41 (by omega) (by omega) (by omega), ho 42 (by omega) (by omega) (by omega)]
    exact hw
  · rw [ho 47 (by omega) (by omega) (by omega)]; exact h.2.2.2.2
/-- the ring's length, followed from a key -/
noncomputable def ringV (f : Int → Int) (k : Int) : Int := if tat f (wkN f k (fun _ => 0) (per f k)).1 ≠ -2 ∧ 0 < (wkN f k (fun _ => 0) (per f k)).2 ((wkN f k (fun _ => 0) (per f k)).1 + 1) then (per f k : Int) - (wkN f k (fun _ => 0) (per f k)).2 ((wkN f k (fun _ => 0) (per f k)).1 + 1) + 1 else 0
noncomputable def selfN (f : Int → Int) : Int := sumN (fun z => if f z = z - 1 then 1 else 0) 257
theorem selfN_b (f : Int → Int) : 0 ≤ selfN f ∧ selfN f ≤ 257 := by
  have h := sumN_bound (f := fun z => if f z = z - 1 then 1 else 0) (a := 0) (b := 1) 257 (fun z _ _ => by show 0 ≤ (if f z = z - 1 then (1 : Int) else 0) ∧ (if f z = z - 1 then (1 : Int) else 0) ≤ 1; split <;> omega)
  unfold selfN
  omega
noncomputable def ckA (m : jM) (n : Nat) : Int := itN (fun i s => ckT (m i) s 257) 7 n
theorem ckA_0 (m : jM) : ckA m 0 = 7 := itN_0 _ _
theorem ckA_s (m : jM) (n : Nat) : ckA m (n + 1) = ckT (m n) (ckA m n) 257 := itN_s _ _ _
noncomputable def sizeA (m : jM) (n : Nat) : Int := sumN (fun s => cnt (m s.toNat)) n
theorem per_b (f : Int → Int) (k : Int) : per f k ≤ 257 := (wkS_spec f k (fun _ => 0)).2.2

/-! PURE WORDS: a key followed in a map that is into itself and turns; the least common length, and that it is small -/
noncomputable def nd (f : Int → Int) (k : Int) (n : Nat) : Int := itN (fun _ x => tat f x) k n
theorem nd_0 (f : Int → Int) (k : Int) : nd f k 0 = k := itN_0 _ _
theorem nd_s (f : Int → Int) (k : Int) (n : Nat) : nd f k (n + 1) = tat f (nd f k n) := itN_s _ _ _
theorem nd_add (f : Int → Int) (k : Int) (i : Nat) : ∀ n : Nat, nd f (nd f k i) n = nd f k (i + n)
  | 0 => by rw [nd_0, Nat.add_zero]
  | n + 1 => by rw [nd_s, nd_add f k i n, ← Nat.add_assoc, nd_s]
theorem wkN_1 (f : Int → Int) (k : Int) (A : Int → Int) : ∀ n : Nat, (wkN f k A n).1 = nd f k n
  | 0 => by rw [wkN_0, nd_0]
  | n + 1 => by
    rw [wkN_s, nd_s]
    show tat f (wkN f k A n).1 = _
    rw [wkN_1 f k A n]
theorem wkN_on {f : Int → Int} {k : Int} {A : Int → Int} {z : Int} : ∀ n : Nat, (∃ i : Nat, i < n ∧ z = nd f k i + 1) → 0 < (wkN f k A n).2 z
  | 0, h => by obtain ⟨i, h, _⟩ := h; exact absurd h (by omega)
  | n + 1, h => by
    rw [wkN_s]
    show 0 < if z = (wkN f k A n).1 + 1 then (n : Int) + 1 else (wkN f k A n).2 z
    by_cases e : z = (wkN f k A n).1 + 1
    · rw [if_pos e]; omega
    · rw [if_neg e]
      obtain ⟨i, h1, h2⟩ := h
      rw [wkN_1] at e
      refine wkN_on n ⟨i, ?_, h2⟩
      rcases Nat.lt_or_ge i n with q | q
      · exact q
      · obtain rfl : i = n := by omega
        exact absurd h2 e
theorem wkN_off {f : Int → Int} {k : Int} {A : Int → Int} {z : Int} : ∀ n : Nat, (∀ i : Nat, i < n → z ≠ nd f k i + 1) → (wkN f k A n).2 z = A z
  | 0, _ => by rw [wkN_0]
  | n + 1, h => by
    rw [wkN_s]
    show (if z = (wkN f k A n).1 + 1 then (n : Int) + 1 else (wkN f k A n).2 z) = _
    rw [wkN_1, if_neg (h n (by omega))]
    exact wkN_off n (fun i hi => h i (by omega))
theorem wkS_spec (f : Int → Int) (k : Int) (A : Int → Int) : (∀ j : Nat, j < wkS f k A → wgo f (wkN f k A j)) ∧ ¬ wgo f (wkN f k A (wkS f k A)) ∧ wkS f k A ≤ 257 := by
  have key : ∀ n : Nat, (∀ j : Nat, j < n → wgo f (wkN f k A j)) ∨ ∃ N : Nat, N < n ∧ (∀ j : Nat, j < N → wgo f (wkN f k A j)) ∧ ¬ wgo f (wkN f k A N) := by
    intro n
    induction n with
    | zero => exact Or.inl (fun j h => absurd h (by omega))
    | succ n ih =>
      rcases ih with h | ⟨N, h1, h2⟩
      · by_cases g : wgo f (wkN f k A n)
        · refine Or.inl (fun j hj => ?_)
          rcases Nat.lt_or_ge j n with q | q
          · exact h j q
          · obtain rfl : j = n := by omega
            exact g
        · exact Or.inr ⟨n, by omega, h, g⟩
      · exact Or.inr ⟨N, by omega, h2⟩
  rcases key 257 with h | ⟨N, h0, h1, h2⟩
  · have h2 := wkN_257 h
    rw [wkS_eq h h2]
    exact ⟨h, h2, Nat.le_refl _⟩
  · rw [wkS_eq h1 h2]
    exact ⟨h1, h2, by omega⟩
/-- how many steps till a key comes again -/
noncomputable def per (f : Int → Int) (k : Int) : Nat := wkS f k (fun _ => 0)
section PERM
variable {f : Int → Int} {k : Int}
def perm (f : Int → Int) : Prop := rowok f ∧ injF f ∧ inside f
theorem tat_inj (h : perm f) {x y : Int} (hx : tat f x ≠ -2) (e : tat f x = tat f y) : x = y := by
  have hx1 := tat_num hx
  have hy1 := tat_num (f := f) (k := y) (by rw [← e]; exact hx)
  rw [tat_in hx1] at hx e
  rw [tat_in hy1] at e
  have := h.2.1 (x + 1) (y + 1) (by omega) (by omega) (by omega) (by omega) e hx
  omega
theorem nd_key (h : perm f) (hk : tat f k ≠ -2) : ∀ n : Nat, tat f (nd f k n) ≠ -2
  | 0 => by rw [nd_0]; exact hk
  | n + 1 => by
    have ih := nd_key h hk n
    have hn := tat_num ih
    rw [nd_s, tat_in hn]
    rw [tat_in hn] at ih
    exact (h.2.2 (nd f k n + 1) (by omega) (by omega)).resolve_left ih
theorem nd_back (h : perm f) (hk : tat f k ≠ -2) {a b : Nat} : ∀ i : Nat, nd f k (i + a) = nd f k (i + b) → nd f k a = nd f k b
  | 0, e => by rw [Nat.zero_add, Nat.zero_add] at e; exact e
  | i + 1, e => by
    rw [show i + 1 + a = (i + a) + 1 by omega, show i + 1 + b = (i + b) + 1 by omega, nd_s, nd_s] at e
    exact nd_back h hk i (tat_inj h (nd_key h hk _) e)
theorem per_ne (h : perm f) (hk : tat f k ≠ -2) {i j : Nat} (hij : i < j) (hj : j < per f k) : nd f k j ≠ nd f k i := by
  intro e
  have h1 := ((wkS_spec f k (fun _ => 0)).1 j hj).2
  rw [wkN_1] at h1
  have h2 := wkN_on (f := f) (k := k) (A := fun _ => 0) (z := nd f k j + 1) j ⟨i, hij, by rw [e]⟩
  omega
theorem per_at (h : perm f) (hk : tat f k ≠ -2) : nd f k (per f k) = k ∧ 1 ≤ per f k ∧ per f k ≤ 257 := by
  obtain ⟨h1, h2, h3⟩ : (∀ j : Nat, j < per f k → wgo f (wkN f k (fun _ => 0) j)) ∧ ¬ wgo f (wkN f k (fun _ => 0) (per f k)) ∧ per f k ≤ 257 := wkS_spec f k (fun _ => 0)
  have hkey := nd_key h hk (per f k)
  have hm : ∃ i : Nat, i < per f k ∧ nd f k (per f k) = nd f k i := by
    refine Classical.byContradiction (fun q => h2 ⟨by rw [wkN_1]; exact hkey, ?_⟩)
    rw [wkN_1, wkN_off _ (fun i hi e => q ⟨i, hi, by omega⟩)]
    exact Int.le_refl _
  obtain ⟨i, hi, e⟩ := hm
  have hP : 1 ≤ per f k := by omega
  refine ⟨?_, hP, h3⟩
  rcases Nat.eq_zero_or_pos i with q | q
  · subst q
    rw [e, nd_0]
  · rw [show per f k = 1 + (per f k - 1) by omega, show i = 1 + (i - 1) by omega] at e
    exact absurd (nd_back h hk 1 e) (per_ne h hk (by omega) (by omega))
/-- followed over numbers that were not come to before, it is as if none had been -/
theorem wkS_free (h : perm f) (hk : tat f k ≠ -2) {A : Int → Int} (hA : ∀ j : Nat, j < per f k → A (nd f k j + 1) ≤ 0) : wkS f k A = per f k := by
  refine wkS_eq (fun j hj => ⟨by rw [wkN_1]; exact nd_key h hk j, ?_⟩) (fun q => ?_)
  · rw [wkN_1, wkN_off j (fun i hi e => per_ne h hk hi hj (by omega))]
    exact hA j hj
  · have h1 := q.2
    have hp := per_at h hk
    rw [wkN_1] at h1
    have h2 := wkN_on (f := f) (k := k) (A := A) (z := nd f k (per f k) + 1) (per f k) ⟨0, by omega, by rw [hp.1, nd_0]⟩
    omega
theorem per_orb (h : perm f) (hk : tat f k ≠ -2) (i : Nat) : per f (nd f k i) = per f k := by
  have hp := per_at h hk
  refine wkS_eq (fun j hj => ⟨by rw [wkN_1]; exact nd_key h (nd_key h hk i) j, ?_⟩) (fun q => ?_)
  · rw [wkN_1, wkN_off j (fun a ha e => ?_)]
    · exact Int.le_refl _
    · rw [nd_add, nd_add] at e
      exact per_ne h hk ha hj (nd_back h hk i (by omega))
  · have h1 := q.2
    rw [wkN_1] at h1
    have e : nd f (nd f k i) (per f k) = nd f k i := by
      rw [nd_add, Nat.add_comm, ← nd_add, hp.1]
    have h2 := wkN_on (f := f) (k := nd f k i) (A := fun _ => 0) (z := nd f (nd f k i) (per f k) + 1) (per f k) ⟨0, by omega, by rw [e, nd_0]⟩
    omega
/-- so many keys have a length, at least -/
theorem per_many (h : perm f) (hk : tat f k ≠ -2) : (per f k : Int) ≤ sumN (fun z => bI (f z ≠ -2 ∧ per f (z - 1) = per f k)) 257 := by
  have h1 := wkN_seen (f := f) (k := k) (A := fun _ => 0) (per f k) (wkS_spec f k (fun _ => 0)).1
  have h0 : seenC (fun _ => 0) = 0 := by
    unfold seenC
    rw [sumN_congr (g := fun _ => 0) 257 (fun z _ _ => if_pos (Int.le_refl _)), sumN_zero]
  have h2 : seenC (wkN f k (fun _ => 0) (per f k)).2 ≤ sumN (fun z => bI (f z ≠ -2 ∧ per f (z - 1) = per f k)) 257 := by
    have h3 := sumN_bound (f := fun z => bI (f z ≠ -2 ∧ per f (z - 1) = per f k) + -(if (wkN f k (fun _ => 0) (per f k)).2 z ≤ 0 then (0 : Int) else 1)) (a := 0) (b := 1) 257 (fun z z0 z1 => by
      have hb := bI_c (f z ≠ -2 ∧ per f (z - 1) = per f k)
      show 0 ≤ bI (f z ≠ -2 ∧ per f (z - 1) = per f k) + -(if (wkN f k (fun _ => 0) (per f k)).2 z ≤ 0 then (0 : Int) else 1) ∧ bI (f z ≠ -2 ∧ per f (z - 1) = per f k) + -(if (wkN f k (fun _ => 0) (per f k)).2 z ≤ 0 then (0 : Int) else 1) ≤ 1
      by_cases e : (wkN f k (fun _ => 0) (per f k)).2 z ≤ 0
      · rw [if_pos e]; omega
      · rw [if_neg e]
        have hx : ∃ i : Nat, i < per f k ∧ z = nd f k i + 1 := by
          refine Classical.byContradiction (fun q => e ?_)
          rw [wkN_off _ (fun i hi e => q ⟨i, hi, e⟩)]
          exact Int.le_refl _
        obtain ⟨i, hi, rfl⟩ := hx
        have hkey := nd_key h hk i
        rw [tat_in (tat_num hkey)] at hkey
        rw [bI_t ⟨hkey, by rw [show nd f k i + 1 - 1 = nd f k i by omega]; exact per_orb h hk i⟩]
        omega)
    rw [sumN_add] at h3
    have h4 : sumN (fun z => -(if (wkN f k (fun _ => 0) (per f k)).2 z ≤ 0 then (0 : Int) else 1)) 257 = -(seenC (wkN f k (fun _ => 0) (per f k)).2) := by
      have h5 := sumN_add (f := fun z => -(if (wkN f k (fun _ => 0) (per f k)).2 z ≤ 0 then (0 : Int) else 1)) (g := fun z => if (wkN f k (fun _ => 0) (per f k)).2 z ≤ 0 then (0 : Int) else 1) 257
      rw [sumN_congr (g := fun _ => 0) 257 (fun z _ _ => by show -(if (wkN f k (fun _ => 0) (per f k)).2 z ≤ 0 then (0 : Int) else 1) + (if (wkN f k (fun _ => 0) (per f k)).2 z ≤ 0 then (0 : Int) else 1) = 0; omega), sumN_zero] at h5
      unfold seenC
      omega
    omega
  omega
end PERM

/-! PURE WORDS of keeping and of following a key -/
noncomputable def keepM (m : jM) (s : Int) (t nx : Nat) : jM := mset (mset (mset (tset m (8 + nx) (m t)) 47 nx s) 45 0 (((nx : Int) + 1).tmod 8)) 45 1 (if 8 < m 45 1 + 1 then 8 else m 45 1 + 1)
noncomputable def backM (m : jM) (t l : Nat) : jM := mset (tset (mset m 45 0 l) t (m (8 + l))) 45 1 (if m 45 1 - 1 < 0 then 0 else m 45 1 - 1)
abbrev jWk : Type := Int × (Int → Int)
/-- following a key: where one is, and at which step one came to each number -/
noncomputable def wkN (f : Int → Int) (k : Int) (A : Int → Int) (n : Nat) : jWk := itN (fun i q => (tat f q.1, fun z => if z = q.1 + 1 then (i : Int) + 1 else q.2 z)) (k, A) n
theorem wkN_0 (f : Int → Int) (k : Int) (A : Int → Int) : wkN f k A 0 = (k, A) := itN_0 _ _
theorem wkN_s (f : Int → Int) (k : Int) (A : Int → Int) (n : Nat) : wkN f k A (n + 1) = (tat f (wkN f k A n).1, fun z => if z = (wkN f k A n).1 + 1 then (n : Int) + 1 else (wkN f k A n).2 z) := itN_s _ _ _
def wgo (f : Int → Int) (q : jWk) : Prop := tat f q.1 ≠ -2 ∧ q.2 (q.1 + 1) ≤ 0
noncomputable def wkS (f : Int → Int) (k : Int) (A : Int → Int) : Nat := Classical.epsilon (fun N => (∀ j : Nat, j < N → wgo f (wkN f k A j)) ∧ ¬ wgo f (wkN f k A N))
theorem wkS_eq {f : Int → Int} {k : Int} {A : Int → Int} {N : Nat} (h1 : ∀ j : Nat, j < N → wgo f (wkN f k A j)) (h2 : ¬ wgo f (wkN f k A N)) : wkS f k A = N := by
  have hs := Classical.epsilon_spec (p := fun N => (∀ j : Nat, j < N → wgo f (wkN f k A j)) ∧ ¬ wgo f (wkN f k A N)) ⟨N, h1, h2⟩
  rcases Nat.lt_trichotomy (wkS f k A) N with q | q | q
  · exact absurd (h1 _ q) hs.2
  · exact q
  · exact absurd (hs.1 _ q) h2
def ain (A : Int → Int) : Prop := ∀ z : Int, 0 ≤ z → z < 257 → 0 ≤ A z ∧ A z ≤ 257
theorem tat_num {f : Int → Int} {k : Int} (h : tat f k ≠ -2) : -1 ≤ k ∧ k ≤ 255 := Classical.byContradiction (fun q => h (tat_out q))
theorem wkN_ain {f : Int → Int} {k : Int} {A : Int → Int} (hA : ain A) : ∀ n : Nat, n ≤ 257 → ain (wkN f k A n).2
  | 0, _ => by rw [wkN_0]; exact hA
  | n + 1, h => by
    have ih := wkN_ain (f := f) (k := k) hA n (by omega)
    rw [wkN_s]
    intro z h0 h1
    show 0 ≤ (if z = (wkN f k A n).1 + 1 then (n : Int) + 1 else (wkN f k A n).2 z) ∧ (if z = (wkN f k A n).1 + 1 then (n : Int) + 1 else (wkN f k A n).2 z) ≤ 257
    by_cases e : z = (wkN f k A n).1 + 1
    · rw [if_pos e]; omega
    · rw [if_neg e]; exact ih z h0 h1
noncomputable def seenC (A : Int → Int) : Int := sumN (fun z => if A z ≤ 0 then 0 else 1) 257
theorem seenC_step {A : Int → Int} {p v : Int} (h0 : 0 ≤ p) (h1 : p < 257) (hp : A p ≤ 0) (hv : 0 < v) : seenC (fun z => if z = p then v else A z) = seenC A + 1 := by
  have h := sumN_set (f := fun z => if A z ≤ 0 then 0 else 1) (i := p) (v := 1) 257 h0 h1
  have e : (if A p ≤ 0 then (0 : Int) else 1) = 0 := if_pos hp
  have h : sumN (fun z => if z = p then 1 else if A z ≤ 0 then 0 else 1) 257 = sumN (fun z => if A z ≤ 0 then 0 else 1) 257 + 1 - (if A p ≤ 0 then (0 : Int) else 1) := h
  rw [e] at h
  unfold seenC
  rw [show sumN (fun z => if A z ≤ 0 then 0 else 1) 257 + 1 = sumN (fun z => if A z ≤ 0 then 0 else 1) 257 + 1 - 0 by omega, ← h]
  refine sumN_congr 257 (fun z _ _ => ?_)
  show (if (if z = p then v else A z) ≤ 0 then (0 : Int) else 1) = if z = p then 1 else if A z ≤ 0 then 0 else 1
  by_cases e : z = p
  · rw [if_pos e, if_pos e, if_neg (by omega)]
  · rw [if_neg e, if_neg e]
theorem seenC_b (A : Int → Int) : 0 ≤ seenC A ∧ seenC A ≤ 257 := by
  have h := sumN_bound (f := fun z => if A z ≤ 0 then 0 else 1) (a := 0) (b := 1) 257 (fun z _ _ => by show 0 ≤ (if A z ≤ 0 then (0 : Int) else 1) ∧ (if A z ≤ 0 then (0 : Int) else 1) ≤ 1; split <;> omega)
  unfold seenC
  omega
theorem seenC_full {A : Int → Int} (h : seenC A = 257) {p : Int} (h0 : 0 ≤ p) (h1 : p < 257) : 0 < A p := by
  by_cases e : A p ≤ 0
  · have h2 := seenC_step (v := 1) h0 h1 e (by decide)
    have h3 := seenC_b (fun z => if z = p then 1 else A z)
    omega
  · omega
theorem wkN_seen {f : Int → Int} {k : Int} {A : Int → Int} : ∀ n : Nat, (∀ j : Nat, j < n → wgo f (wkN f k A j)) → seenC (wkN f k A n).2 = seenC A + n
  | 0, _ => by rw [wkN_0]; simp
  | n + 1, h => by
    have ih := wkN_seen n (fun j hj => h j (by omega))
    have hg := h n (by omega)
    have hn := tat_num hg.1
    rw [wkN_s]
    show seenC (fun z => if z = (wkN f k A n).1 + 1 then (n : Int) + 1 else (wkN f k A n).2 z) = _
    rw [seenC_step (by omega) (by omega) hg.2 (by omega), ih]
    omega
theorem wkN_257 {f : Int → Int} {k : Int} {A : Int → Int} (h : ∀ j : Nat, j < 257 → wgo f (wkN f k A j)) : ¬ wgo f (wkN f k A 257) := by
  intro q
  have h1 := wkN_seen 257 h
  have h2 := seenC_b A
  have h3 := seenC_b (wkN f k A 257).2
  have hn := tat_num q.1
  have h4 := seenC_full (A := (wkN f k A 257).2) (by omega) (p := (wkN f k A 257).1 + 1) (by omega) (by omega)
  have h5 := q.2
  omega
noncomputable def wkM (m : jM) (n : Int) (q : jWk) : jM := mset (mset (mrow m 49 q.2) 48 0 n) 48 1 q.1
noncomputable def wkR (m : jM) (f : Int → Int) (k : Int) : jM := mset (wkM m (wkS f k (m 49)) (wkN f k (m 49) (wkS f k (m 49)))) 48 2 (if tat f (wkN f k (m 49) (wkS f k (m 49))).1 = -2 then 0 else 1)
theorem wkR_eq {m : jM} {f : Int → Int} {k : Int} {N : Nat} (h : wkS f k (m 49) = N) : wkR m f k = mset (wkM m N (wkN f k (m 49) N)) 48 2 (if tat f (wkN f k (m 49) N).1 = -2 then 0 else 1) := by
  unfold wkR
  rw [h]
theorem wkM_48_0 (m : jM) (n : Int) (q : jWk) : wkM m n q 48 0 = n := by
  unfold wkM
  rw [mset_off (by decide), mset_at]
theorem wkM_48_1 (m : jM) (n : Int) (q : jWk) : wkM m n q 48 1 = q.1 := mset_at _ _ _ _
theorem wkM_49 (m : jM) (n : Int) (q : jWk) : wkM m n q 49 = q.2 := by
  unfold wkM
  rw [mset_ne (by decide), mset_ne (by decide), mrow_at]
theorem wkM_ne {m : jM} {n : Int} {q : jWk} {j : Nat} (h1 : j ≠ 48) (h2 : j ≠ 49) : wkM m n q j = m j := by
  unfold wkM
  rw [mset_ne h1, mset_ne h1, mrow_ne h2]
theorem mset_mset (m : jM) (j : Nat) (z x y : Int) : mset (mset m j z x) j z y = mset m j z y := by
  funext i k
  unfold mset
  by_cases e : i = j ∧ k = z
  · rw [if_pos e, if_pos e]
  · rw [if_neg e, if_neg e, if_neg e]
theorem mset_comm {m : jM} {j i : Nat} {z w x y : Int} (h : i ≠ j ∨ w ≠ z) : mset (mset m j z x) i w y = mset (mset m i w y) j z x := by
  funext a k
  unfold mset
  by_cases e : a = i ∧ k = w
  · rw [if_pos e, if_neg (by omega), if_pos e]
  · rw [if_neg e]
    by_cases e2 : a = j ∧ k = z
    · rw [if_pos e2, if_pos e2]
    · rw [if_neg e2, if_neg e2, if_neg e]
theorem wk_step {m : jM} {f A : Int → Int} {k : Int} {i : Nat} {q : jWk} (hq : wkN f k A i = q) (n1 n2 : Int) (h1 : n1 = i + 1) (h2 : n2 = q.1 + 1) (x : Int) (hx : x = tat f q.1) : mset (mset (mset (wkM m i q) 48 0 n1) 49 n2 n1) 48 1 x = wkM m ((i + 1 : Nat) : Int) (wkN f k A (i + 1)) := by
  subst h1; subst h2; subst hx
  rw [wkN_s, hq]
  unfold wkM
  funext j z
  unfold mset mrow
  rcases Classical.em (j = 48) with a | a
  · subst a
    rcases Classical.em (z = 1) with e1 | e1
    · simp [e1]
    · rcases Classical.em (z = 0) with e0 | e0
      · simp [e0]
      · simp [e0, e1]
  · rcases Classical.em (j = 49) with b | b
    · subst b
      rcases Classical.em (z = q.1 + 1) with e | e <;> simp [e]
    · simp [a, b]

/-! PURE WORDS of the check's other calls: rings, words, undoing, figures -/
theorem lv_f0 {F : jF} {X : jX} {m : jM} {pc : Nat} {lv : List (Nat × jV)} {st : List jV} {own : String} {cc : ByteArray} {nl dp : Nat} {rt : Option FieldType} (hF : jOk F X own cc nl rt dp) (hd : decode cc pc = .ok (.fconst 0, 1)) (k : jG F X m (pc + 1) lv (vF FP.fconst0 :: st)) : jG F X m pc lv st := by
  intro ls H locs hl hP hS
  exact lv_fconst0 hF.x hF.b hd (k ls H locs hl hP hS)
theorem again_key {f : Int → Int} {k : Int} (h : 0 < (wkN f k (fun _ => 0) (per f k)).2 ((wkN f k (fun _ => 0) (per f k)).1 + 1)) : tat f (wkN f k (fun _ => 0) (per f k)).1 ≠ -2 := by
  refine Classical.byContradiction (fun q => ?_)
  have e : (wkN f k (fun _ => 0) (per f k)).2 ((wkN f k (fun _ => 0) (per f k)).1 + 1) = 0 := by
    refine wkN_off (per f k) (fun i hi hz => ?_)
    have h2 := ((wkS_spec f k (fun _ => 0)).1 i hi).1
    rw [wkN_1] at h2 q hz
    rw [show nd f k (per f k) = nd f k i by omega] at q
    exact q (fun x => h2 x)
  omega
theorem againV_b {f : Int → Int} (hf : rowok f) {k : Int} (hk : num k) : -2 ≤ againV f k ∧ againV f k ≤ 255 := by
  unfold againV
  split
  · rw [wkN_1]
    exact nd_b hf hk _
  · omega
theorem ring_again {f : Int → Int} {k : Int} : ringV f k = if againV f k = -2 then 0 else (per f k : Int) + 1 - (wkN f k (fun _ => 0) (per f k)).2 (againV f k + 1) := by
  by_cases e : 0 < (wkN f k (fun _ => 0) (per f k)).2 ((wkN f k (fun _ => 0) (per f k)).1 + 1)
  · have hk := again_key e
    have hn := tat_num hk
    have a : againV f k = (wkN f k (fun _ => 0) (per f k)).1 := if_pos ⟨by omega, e⟩
    rw [a, if_neg (by omega)]
    exact Eq.trans (if_pos ⟨hk, e⟩) (by omega)
  · have a : againV f k = -2 := if_neg (fun q => e q.2)
    rw [a, if_pos rfl]
    exact if_neg (fun q => e q.2)
/-- the words below i's turn have told a map from the last one on -/
def PLq (K V : Int → Int) (w i : Nat) (g : Int → Int) : Prop := ∀ z : Int, 0 ≤ z → z < 257 → (later K w i z → g z = playN K V w z) ∧ (¬ later K w i z → g z = -2)
theorem PLq_0 (K V : Int → Int) (w : Nat) : PLq K V w w (fun _ => -2) := fun _ _ _ => ⟨fun q => absurd q later_w, fun _ => rfl⟩
theorem PLq_skip {K V : Int → Int} {w j : Nat} {g : Int → Int} (h : PLq K V w (j + 1) g) (hj : j < w) (hl : ¬ isL K w j) : PLq K V w j g := by
  intro z z0 z1
  have e : later K w j z ↔ later K w (j + 1) z := by
    rw [later_s hj]
    refine ⟨fun q => ?_, Or.inr⟩
    rcases q with q | q
    · rw [q]
      exact Classical.byContradiction (fun x => hl (later_isL.mp x))
    · exact q
  rw [e]
  exact h z z0 z1
theorem PLq_mark {K V : Int → Int} {w j : Nat} {g : Int → Int} (h : PLq K V w (j + 1) g) (hj : j < w) (hl : isL K w j) (hk : -1 ≤ K j ∧ K j ≤ 255) : PLq K V w j (fun z => if z = K j + 1 then V j else g z) := by
  intro z z0 z1
  show (later K w j z → (if z = K j + 1 then V j else g z) = playN K V w z) ∧ (¬ later K w j z → (if z = K j + 1 then V j else g z) = -2)
  rw [later_s hj]
  by_cases e : z = K j + 1
  · rw [if_pos e]
    refine ⟨fun _ => ?_, fun q => absurd (Or.inl e) q⟩
    rw [e]
    exact (playN_last hk w hj (fun i h1 h2 => hl i (by omega) h2)).symm
  · rw [if_neg e]
    exact ⟨fun q => (h z z0 z1).1 (q.resolve_left e), fun q => (h z z0 z1).2 (fun x => q (Or.inr x))⟩
theorem PLq_end {K V : Int → Int} {w : Nat} {g : Int → Int} (h : PLq K V w 0 g) : eqR g (playN K V w) := by
  intro z z0 z1
  have h5 := h z z0 z1
  by_cases e : later K w 0 z
  · exact h5.1 e
  · rw [h5.2 e]
    exact (playN_off (fun _ => Or.inr trivial) w (fun j hj q => e ⟨j, Nat.zero_le _, hj, q⟩)).symm
/-- the check's words are well -/
def mwok (m : jM) (w : Nat) : Prop := w ≤ 60 ∧ m 51 0 = w ∧ ∀ z : Int, 0 ≤ z → z < w → (-1 ≤ m 55 z ∧ m 55 z ≤ 255) ∧ (-2 ≤ m 56 z ∧ m 56 z ≤ 255)
/-- the words written anew, nothing else changed -/
def MRw (m : jM) (w : Nat) (K V : Int → Int) (m1 : jM) : Prop := (∀ j : Nat, j ≠ 51 → j ≠ 53 → j ≠ 54 → j ≠ 55 → j ≠ 56 → m1 j = m j) ∧ m1 51 1 = m 51 1 ∧ m1 51 0 = w ∧ ∀ z : Int, 0 ≤ z → z < w → m1 55 z = K z ∧ m1 56 z = V z
theorem MR_say {m m0 m1 : jM} {w : Nat} {k v : Int} (hS : MSm m m0) (he : m1 = mset (mset (mset m0 55 w k) 56 w v) 51 0 ((w : Int) + 1)) : MRw m (w + 1) (fun z => if z = w then k else m 55 z) (fun z => if z = w then v else m 56 z) m1 := by
  subst he
  refine ⟨fun j a b c d e => by rw [mset_ne a, mset_ne e, mset_ne d, hS.1 j a b c], by rw [mset_off (by decide), mset_ne (by decide), mset_ne (by decide), hS.2.2], by rw [mset_at]; omega, fun z _ _ => ⟨?_, ?_⟩⟩
  · rw [mset_ne (by decide), mset_ne (by decide)]
    dsimp only
    by_cases e : z = w
    · rw [if_pos e, e, mset_at]
    · rw [if_neg e, mset_off e, hS.1 55 (by decide) (by decide) (by decide)]
  · rw [mset_ne (by decide)]
    dsimp only
    by_cases e : z = w
    · rw [if_pos e, e, mset_at]
    · rw [if_neg e, mset_off e, mset_ne (by decide), hS.1 56 (by decide) (by decide) (by decide)]
theorem swap_mem2 (m : jM) (i : Int) : mset (mset (mset (mset m 55 i (m 55 (i + 1))) 56 i (mset m 55 i (m 55 (i + 1)) 56 (i + 1))) 55 (i + 1) (m 55 i)) 56 (i + 1) (m 56 i) = mrow (mrow m 55 (swp (m 55) i)) 56 (swp (m 56) i) := by
  funext j z
  unfold mset mrow swp
  by_cases a : j = 55
  · subst a
    by_cases e1 : z = i
    · rw [if_neg (by omega), if_neg (by omega), if_neg (by omega), if_pos ⟨rfl, e1⟩, if_neg (by omega), if_pos rfl, if_pos e1]
    · by_cases e2 : z = i + 1
      · rw [if_neg (by omega), if_pos ⟨rfl, e2⟩, if_neg (by omega), if_pos rfl, if_neg e1, if_pos e2]
      · rw [if_neg (by omega), if_neg (fun q => e2 q.2), if_neg (by omega), if_neg (fun q => e1 q.2), if_neg (by omega), if_pos rfl, if_neg e1, if_neg e2]
  · by_cases b : j = 56
    · subst b
      by_cases e1 : z = i
      · rw [if_neg (by omega), if_neg (by omega), if_pos ⟨rfl, e1⟩, if_neg (by omega), if_pos rfl, if_pos e1]
      · by_cases e2 : z = i + 1
        · rw [if_pos ⟨rfl, e2⟩, if_pos rfl, if_neg e1, if_pos e2]
        · rw [if_neg (fun q => e2 q.2), if_neg (by omega), if_neg (fun q => e1 q.2), if_neg (by omega), if_pos rfl, if_neg e1, if_neg e2]
    · rw [if_neg (by omega), if_neg (by omega), if_neg (by omega), if_neg (by omega), if_neg b, if_neg a]
theorem swap_rows2 {m : jM} {K V : Int → Int} {j : Int} : mrow (mrow (mrow (mrow m 55 K) 56 V) 55 (swp ((mrow (mrow m 55 K) 56 V) 55) j)) 56 (swp ((mrow (mrow m 55 K) 56 V) 56) j) = mrow (mrow m 55 (swp K j)) 56 (swp V j) := by
  rw [mrow_at, mrow_ne (j := 56) (i := 55) (by decide), mrow_at, mrow_comm (j := 56) (i := 55) (by decide), mrow_mrow, mrow_mrow]
theorem MR_stir {m m0 m1 : jM} {w : Nat} {K V : Int → Int} (hS : MSm m m0) (h0 : m 51 0 = w) (he : m1 = mrow (mrow m0 55 K) 56 V) : MRw m w K V m1 := by
  subst he
  exact ⟨fun j a b c d e => by rw [mrow_ne e, mrow_ne d, hS.1 j a b c], by rw [mrow_ne (by decide), mrow_ne (by decide), hS.2.2], by rw [mrow_ne (by decide), mrow_ne (by decide), hS.2.1, h0], fun z _ _ => ⟨by rw [mrow_ne (by decide), mrow_at], by rw [mrow_at]⟩⟩
/-- the latest map given back -/
def MBk (m : jM) (c s : Nat) (m1 : jM) : Prop := c < 8 ∧ s < 8 ∧ m 51 1 = (c : Int) + 1 ∧ m 57 c = s ∧ (∀ j : Nat, j ≠ 51 → j ≠ 52 → j ≠ 53 → j ≠ 54 → m1 j = m j) ∧ m1 51 0 = m 51 0 ∧ m1 51 1 = c ∧ eqR (mR m1 s) (mK m c) ∧ ∀ t : Nat, t < 8 → t ≠ s → eqR (mR m1 t) (mR m t)
theorem MBk_of {m m0 m1 : jM} {c s : Nat} (hc : c < 8) (hs : s < 8) (h1 : m 51 1 = (c : Int) + 1) (h2 : m 57 c = s) (hS : MSm m m0) (he : m1 = mw (mset m0 51 1 c) s (mK m c)) : MBk m c s m1 := by
  subst he
  refine ⟨hc, hs, h1, h2, fun j a b d e => by rw [mw_ne b, mset_ne a, hS.1 j a d e], by rw [mw_ne (by decide), mset_off (by decide), hS.2.1], by rw [mw_ne (by decide), mset_at], mR_mw _ s _, fun t t1 t2 => ?_⟩
  refine eqR_trans (mR_mw_ne t2) ?_
  rw [mR_52 (m := m) (by rw [mset_ne (by decide), hS.1 52 (by decide) (by decide) (by decide)]) t]
  exact eqR_rfl _
noncomputable def ckB (m : jM) (n : Nat) : Int := itN (fun i s => ckT (mR m i) s 257) 7 n
theorem ckB_0 (m : jM) : ckB m 0 = 7 := itN_0 _ _
theorem ckB_s (m : jM) (n : Nat) : ckB m (n + 1) = ckT (mR m n) (ckB m n) 257 := itN_s _ _ _
noncomputable def sizeB (m : jM) (n : Nat) : Int := sumN (fun s => cnt (mR m s.toNat)) n

/-! PURE WORDS: answers of rows that agree; the class's memory beside the check's -/
theorem tat_eqR {f g : Int → Int} (h : eqR f g) : tat f = tat g := by
  funext k
  unfold tat
  by_cases e : -1 ≤ k ∧ k ≤ 255
  · rw [if_pos e, if_pos e]
    exact h _ (by omega) (by omega)
  · rw [if_neg e, if_neg e]
theorem fmark_eqR {f g : Int → Int} (h : eqR f g) (k v : Int) : eqR (fmark f k v) (fmark g k v) := by
  intro z z0 z1
  unfold fmark
  by_cases e : -1 ≤ k ∧ k ≤ 255
  · rw [if_pos e, if_pos e]
    show (if z = k + 1 then v else f z) = if z = k + 1 then v else g z
    rw [h z z0 z1]
  · rw [if_neg e, if_neg e]
    exact h z z0 z1
theorem inside_eqR {f g : Int → Int} (h : eqR f g) : inside f ↔ inside g := by
  unfold inside
  rw [tat_eqR h]
  exact ⟨fun q z z0 z1 => by rw [← h z z0 z1]; exact q z z0 z1, fun q z z0 z1 => by rw [h z z0 z1]; exact q z z0 z1⟩
theorem once_eqR {f g : Int → Int} (h : eqR f g) : once f ↔ once g := by
  unfold once
  exact ⟨fun q z z0 z1 => by rw [← mult_congr h]; exact q z z0 z1, fun q z z0 z1 => by rw [mult_congr h]; exact q z z0 z1⟩
theorem selfN_eqR {f g : Int → Int} (h : eqR f g) : selfN f = selfN g := sumN_congr 257 (fun z h0 h1 => by rw [h z h0 h1])
theorem rowok_eqR {f g : Int → Int} (h : eqR f g) (hf : rowok f) : rowok g := fun z h0 h1 => by rw [← h z h0 h1]; exact hf z h0 h1
theorem eqR2 {f g f2 g2 : Int → Int} (h : eqR f f2) (h2 : eqR g g2) : eqR f g ↔ eqR f2 g2 := ⟨fun q => eqR_trans (eqR_symm h) (eqR_trans q h2), fun q => eqR_trans h (eqR_trans q (eqR_symm h2))⟩
theorem eqK2 {f g f2 g2 : Int → Int} (h : eqR f f2) (h2 : eqR g g2) : eqK f g ↔ eqK f2 g2 := by
  unfold eqK
  exact ⟨fun q z a b => by rw [← h z a b, ← h2 z a b]; exact q z a b, fun q z a b => by rw [h z a b, h2 z a b]; exact q z a b⟩
theorem eqV2 {f g f2 g2 : Int → Int} (h : eqR f f2) (h2 : eqR g g2) : eqV f g ↔ eqV f2 g2 := by
  unfold eqV
  exact ⟨fun q z a b => by rw [← mult_congr h, ← mult_congr h2]; exact q z a b, fun q z a b => by rw [mult_congr h, mult_congr h2]; exact q z a b⟩
theorem sum_eqR {f g : Int → Int} (h : eqR f g) {n : Nat} (hn : n ≤ 257) : sumN (fun z => pres (f z)) n = sumN (fun z => pres (g z)) n := sumN_congr n (fun z a b => by rw [h z a (by omega)])
theorem nthK_eqR {f g : Int → Int} (h : eqR f g) (p : Int) : nthK f p = nthK g p := by
  unfold nthK
  congr 1
  funext z
  refine propext ⟨?_, ?_⟩
  · rintro ⟨i, h1, h2, h3, h4⟩
    exact ⟨i, h1, by rw [← h i (by omega) (by omega)]; exact h2, by rw [← sum_eqR h (by omega)]; exact h3, h4⟩
  · rintro ⟨i, h1, h2, h3, h4⟩
    exact ⟨i, h1, by rw [h i (by omega) (by omega)]; exact h2, by rw [sum_eqR h (by omega)]; exact h3, h4⟩
theorem wkN_eqR {f g : Int → Int} (h : eqR f g) (k : Int) (A : Int → Int) : ∀ n : Nat, wkN f k A n = wkN g k A n
  | 0 => by rw [wkN_0, wkN_0]
  | n + 1 => by rw [wkN_s, wkN_s, wkN_eqR h k A n, tat_eqR h]
theorem per_eqR {f g : Int → Int} (h : eqR f g) (k : Int) : per f k = per g k := by
  obtain ⟨h1, h2, -⟩ := wkS_spec g k (fun _ => 0)
  refine wkS_eq (fun j hj => ?_) (fun q => h2 ?_)
  · have := h1 j hj
    rw [← wkN_eqR h] at this
    unfold wgo at this ⊢
    rw [tat_eqR h]
    exact this
  · rw [wkN_eqR h] at q
    unfold wgo at q ⊢
    rw [tat_eqR h] at q
    exact q
theorem ringV_eqR {f g : Int → Int} (h : eqR f g) (k : Int) : ringV f k = ringV g k := by
  unfold ringV
  rw [per_eqR h, wkN_eqR h, tat_eqR h]
theorem lcmN_eqR {f g : Int → Int} (h : eqR f g) : ∀ n : Nat, n ≤ 257 → lcmN f n = lcmN g n
  | 0, _ => by rw [lcmN_0, lcmN_0]
  | n + 1, hn => by
    have ih := lcmN_eqR h n (by omega)
    have e := h n (by omega) (by omega)
    by_cases q : f n = -2
    · rw [lcmN_no q, lcmN_no (by rw [← e]; exact q), ih]
    · rw [lcmN_s q, lcmN_s (by rw [← e]; exact q), ih, per_eqR h]
theorem turnN_eqR {f g : Int → Int} (h : eqR f g) : ∀ n : Nat, n ≤ 257 → turnN f n = turnN g n
  | 0, _ => by rw [turnN_0, turnN_0]
  | n + 1, hn => by
    have ih := turnN_eqR h n (by omega)
    have e := h n (by omega) (by omega)
    by_cases q : f n = -2
    · rw [turnN_s0 q, turnN_s0 (by rw [← e]; exact q), ih]
    · rw [turnN_s1 q, turnN_s1 (by rw [← e]; exact q), ih, e]
theorem ckT_eqR {f g : Int → Int} (h : eqR f g) (s : Int) : ∀ n : Nat, n ≤ 257 → ckT f s n = ckT g s n
  | 0, _ => by rw [ckT_0, ckT_0, cnt_congr h]
  | n + 1, hn => by
    have ih := ckT_eqR h s n (by omega)
    have e := h n (by omega) (by omega)
    by_cases q : f n = -2
    · rw [ckT_skip q, ckT_skip (by rw [← e]; exact q), ih]
    · rw [ckT_add q, ckT_add (by rw [← e]; exact q), ih, e]
theorem selv_eqR {f g : Int → Int} (h : eqR f g) : eqR (selv f) (selv g) := by
  intro z a b
  unfold selv
  rw [h z a b]
theorem pow_eqR {f g : Int → Int} (h : eqR f g) (hf : rowok f) (n : Nat) : eqR (powN f (selv f) n) (powN g (selv g) n) := powN_congr h (selv_eqR h) (selv_ok f) hf n
/-! the words -/
def eqW (w : Nat) (K K2 : Int → Int) : Prop := ∀ z : Int, 0 ≤ z → z < w → K z = K2 z
theorem playN_eqW {K V K2 V2 : Int → Int} : ∀ (w n : Nat), n ≤ w → eqW w K K2 → eqW w V V2 → playN K V n = playN K2 V2 n
  | w, 0, _, _, _ => by rw [playN_0, playN_0]
  | w, n + 1, hn, h1, h2 => by rw [playN_s, playN_s, playN_eqW w n (by omega) h1 h2, h1 n (by omega) (by omega), h2 n (by omega) (by omega)]
theorem isL_eqW {K K2 : Int → Int} {w : Nat} (h : eqW w K K2) {i : Int} (h0 : 0 ≤ i) (h1 : i < w) : isL K w i ↔ isL K2 w i := by
  unfold isL
  exact ⟨fun q j a b => by rw [← h j (by omega) (by omega), ← h i h0 h1]; exact q j a b, fun q j a b => by rw [h j (by omega) (by omega), h i h0 h1]; exact q j a b⟩
theorem lastCount_eqW {K K2 : Int → Int} {w : Nat} (h : eqW w K K2) : lastCount K w = lastCount K2 w := sumN_congr w (fun z a b => bI_iff (isL_eqW h a b))
theorem ckR_eqW {K V K2 V2 : Int → Int} {c s : Int} : ∀ (w n : Nat), n ≤ w → eqW w K K2 → eqW w V V2 → ckR K V c s n = ckR K2 V2 c s n
  | w, 0, _, _, _ => by rw [ckR_0, ckR_0]
  | w, n + 1, hn, h1, h2 => by rw [ckR_s, ckR_s, ckR_eqW w n (by omega) h1 h2, h1 n (by omega) (by omega), h2 n (by omega) (by omega)]
theorem swp_eqW {K K2 : Int → Int} {w : Nat} (h : eqW w K K2) {j : Int} (h0 : 0 ≤ j) (h1 : j + 1 < w) : eqW w (swp K j) (swp K2 j) := by
  intro z a b
  unfold swp
  rw [h (j + 1) (by omega) h1, h j h0 (by omega), h z a b]
theorem stirN_eqW {K V K2 V2 : Int → Int} {w : Nat} {s : Int} (hs : 0 ≤ s) (h1 : eqW w K K2) (h2 : eqW w V V2) : ∀ n : Nat, n ≤ w → 0 ≤ (stirN w s K V n).1 ∧ (stirN w s K V n).1 = (stirN w s K2 V2 n).1 ∧ (stirN w s K V n).2.2.2 = (stirN w s K2 V2 n).2.2.2 ∧ eqW w (stirN w s K V n).2.1 (stirN w s K2 V2 n).2.1 ∧ eqW w (stirN w s K V n).2.2.1 (stirN w s K2 V2 n).2.2.1
  | 0, _ => by rw [stirN_0, stirN_0]; exact ⟨hs, rfl, rfl, h1, h2⟩
  | n + 1, hn => by
    obtain ⟨i0, i1, i2, i3, i4⟩ := stirN_eqW hs h1 h2 n (by omega)
    rw [stirN_s, stirN_s]
    generalize stirN w s K V n = q at *
    generalize stirN w s K2 V2 n = q2 at *
    obtain ⟨z, K1, V1, c⟩ := q
    obtain ⟨z2, K3, V3, c2⟩ := q2
    have e1 : z = z2 := i1
    have e2 : c = c2 := i2
    have e3 : eqW w K1 K3 := i3
    have e4 : eqW w V1 V3 := i4
    have e0 : 0 ≤ z := i0
    subst e1; subst e2
    have hz := tmod_b (a := 48271 * z) (b := 2147483647) (by omega) (by decide)
    have hj := tmod_b (a := (48271 * z).tmod 2147483647) (b := (w : Int)) hz.1 (by omega)
    by_cases e : ((48271 * z).tmod 2147483647).tmod w + 1 < w ∧ K1 (((48271 * z).tmod 2147483647).tmod w) ≠ K1 (((48271 * z).tmod 2147483647).tmod w + 1)
    · have e' := e
      rw [e3 _ hj.1 (by omega), e3 _ (by omega) e.1] at e'
      rw [stir_go rfl rfl e, stir_go rfl rfl e']
      exact ⟨hz.1, rfl, rfl, swp_eqW e3 hj.1 e.1, swp_eqW e4 hj.1 e.1⟩
    · have e' : ¬ (((48271 * z).tmod 2147483647).tmod w + 1 < w ∧ K3 (((48271 * z).tmod 2147483647).tmod w) ≠ K3 (((48271 * z).tmod 2147483647).tmod w + 1)) := fun y => e ⟨y.1, by rw [e3 _ hj.1 (by omega), e3 _ (by omega) y.1]; exact y.2⟩
      rw [stir_no rfl rfl e, stir_no rfl rfl e']
      exact ⟨hz.1, rfl, rfl, e3, e4⟩
/-! the relation -/
/-- where the class keeps the i-th latest map, nx being the next place -/
def plc (nx i : Nat) : Nat := (nx + 7 - i) % 8
def Rkept (m : jM) : Prop := ∃ nx c : Nat, nx < 8 ∧ c ≤ 8 ∧ m 45 0 = nx ∧ m 45 1 = c ∧ m 51 1 = c ∧ ∀ i : Nat, i < c → m 47 (plc nx i) = m 57 ((c : Int) - 1 - i) ∧ eqR (m (8 + plc nx i)) (mK m (c - 1 - i))
def Rwords (m : jM) : Prop := ∃ w : Nat, rwok m w ∧ mwok m w ∧ eqW w (m 41) (m 55) ∧ eqW w (m 42) (m 56)
def Rel (m : jM) : Prop := CI m ∧ MI m ∧ (∀ s : Nat, s < 8 → eqR (m s) (mR m s)) ∧ Rwords m ∧ Rkept m
theorem Rel.C {m : jM} (h : Rel m) : CI m := h.1
theorem Rel.I {m : jM} (h : Rel m) : MI m := h.2.1
theorem Rel.R {m : jM} (h : Rel m) {s : Nat} (hs : s < 8) : eqR (m s) (mR m s) := h.2.2.1 s hs
/-- only rooms to work in, and the two answers' rooms, and what the check tells of its last call, have changed -/
def Rqt (m m1 : jM) : Prop := (∀ j : Nat, j < 16 → m1 j = m j) ∧ (∀ j : Nat, 19 ≤ j → j < 35 → m1 j = m j) ∧ m1 40 = m 40 ∧ m1 41 = m 41 ∧ m1 42 = m 42 ∧ m1 45 = m 45 ∧ m1 47 = m 47 ∧ m1 51 0 = m 51 0 ∧ m1 51 1 = m 51 1 ∧ m1 52 = m 52 ∧ m1 55 = m 55 ∧ m1 56 = m 56 ∧ m1 57 = m 57 ∧ m1 58 = m 58
theorem MI_q {m m1 : jM} (hI : MI m) (h52 : m1 52 = m 52) (h55 : m1 55 = m 55) (h56 : m1 56 = m 56) (h57 : m1 57 = m 57) (h0 : m1 51 0 = m 51 0) (h1 : m1 51 1 = m 51 1) : MI m1 := by
  obtain ⟨i1, ⟨w, i2, i3, i4⟩, k, i5, i6, i7⟩ := hI
  exact ⟨fun t ht => by rw [mR_52 h52]; exact i1 t ht, ⟨w, i2, by rw [h0]; exact i3, fun z a b => by rw [h55, h56]; exact i4 z a b⟩, k, i5, by rw [h1]; exact i6, fun i a b => by rw [h57]; exact i7 i a b⟩
theorem Rel_q {m m1 : jM} (h : Rel m) (hC : CI m1) (q : Rqt m m1) : Rel m1 := by
  obtain ⟨h1, h2, h3, ⟨w, w1, w2, w3, w4⟩, nx, c, k1, k2, k3, k4, k5, k6⟩ := h
  obtain ⟨q1, q2, q3, q4, q5, q6, q7, q8, q9, q10, q11, q12, q13, q14⟩ := q
  refine ⟨hC, MI_q h2 q10 q11 q12 q13 q8 q9, fun s hs => ?_, ⟨w, ?_, ?_, ?_, ?_⟩, nx, c, k1, k2, by rw [q6]; exact k3, by rw [q6]; exact k4, by rw [q9]; exact k5, fun i hi => ?_⟩
  · rw [q1 s (by omega), mR_52 q10]; exact h3 s hs
  · unfold rwok; rw [q3, q4, q5]; exact w1
  · unfold mwok; rw [q8, q11, q12]; exact w2
  · rw [q4, q11]; exact w3
  · rw [q5, q12]; exact w4
  · have hp : plc nx i < 8 := Nat.mod_lt _ (by decide)
    unfold mK
    rw [q7, q13, q1 (8 + plc nx i) (by omega), q14]
    exact k6 i hi
theorem CI_of {m m1 : jM} (h : CI m) (h0 : ∀ j : Nat, j < 50 → m1 j = m j) : CI m1 := by
  obtain ⟨h1, ⟨w, h2⟩, h3, h4, h5⟩ := h
  refine ⟨fun t ht => ?_, ⟨w, ?_⟩, ?_, ?_, ?_⟩
  · unfold tok; rw [h0 t (by omega), h0 (19 + t) (by omega)]; exact h1 t ht
  · unfold rwok; rw [h0 40 (by decide), h0 41 (by decide), h0 42 (by decide)]; exact h2
  · rw [h0 45 (by decide)]; exact h3
  · rw [h0 45 (by decide)]; exact h4
  · rw [h0 47 (by decide)]; exact h5
/-- the class's call left all as it was, its answer laid into a room; then the check's call -/
theorem Rel_QS {m m1 m2 m3 : jM} {r : Nat} {y : Int} (h : Rel m) (hq : CQ m m1) (hr : r = 59 ∨ r = 60) (e : m2 = mset m1 r 0 y) (hS : MSm m2 m3) : Rel m3 := by
  subst e
  have a1 : ∀ j : Nat, j ≠ 51 → j ≠ 53 → j ≠ 54 → j ≠ r → m3 j = m1 j := fun j a b c d => by rw [hS.1 j a b c, mset_ne d]
  have a2 : ∀ j : Nat, ¬ garb j → j ≠ 51 → j ≠ 53 → j ≠ 54 → j ≠ r → m3 j = m j := fun j g a b c d => by rw [a1 j a b c d, hq.2 j g]
  have g51 := hq.2 51 (by unfold garb; omega)
  refine Rel_q h (CI_of hq.1 (fun j hj => a1 j (by omega) (by omega) (by omega) (by omega))) ⟨fun j hj => a2 j (by unfold garb; omega) (by omega) (by omega) (by omega) (by omega), fun j a b => a2 j (by unfold garb; omega) (by omega) (by omega) (by omega) (by omega), ?_, ?_, ?_, ?_, ?_, by rw [hS.2.1, mset_ne (by omega), g51], by rw [hS.2.2, mset_ne (by omega), g51], ?_, ?_, ?_, ?_, ?_⟩
  all_goals exact a2 _ (by unfold garb; omega) (by omega) (by omega) (by omega) (by omega)
/-- the class's call threw -/
theorem Rel_X {m m1 m3 : jM} {c : Int} (h : Rel m) (hq : CQ m m1) (e : m3 = mset m1 51 2 c) : Rel m3 := by
  have hS : MSm (mset m1 59 0 (m1 59 0)) m3 := by
    rw [mset_same rfl, e]
    exact MSm_code m1 (Or.inl rfl) c
  exact Rel_QS h hq (Or.inl rfl) rfl hS
theorem plc_s {nx i : Nat} (hn : nx < 8) (hi : i < 7) : plc ((nx + 1) % 8) (i + 1) = plc nx i := by
  unfold plc
  by_cases e : nx = 7
  · subst e
    omega
  · rw [Nat.mod_eq_of_lt (show nx + 1 < 8 by omega)]
    exact congrArg (fun q => q % 8) (by omega)
theorem plc_0 {nx : Nat} (hn : nx < 8) : plc ((nx + 1) % 8) 0 = nx := by
  unfold plc
  omega
theorem plc_ne {nx i : Nat} (hn : nx < 8) (hi : i < 7) : plc nx i ≠ nx := by
  unfold plc
  omega
/-- a slot written and kept, in the class, then in the check -/
theorem Rel_W {m m1 m2 m3 m0 : jM} {s : Nat} {y : Int} {f g : Int → Int} (h : Rel m) (hs : s < 8) (hf : rowok f) (hw : CW m s f m1) (e : m2 = mset m1 59 0 y) (e0 : m0 = mset m2 51 2 0) (hW : MW m0 s g m3) (hfg : eqR f g) : Rel m3 := by
  obtain ⟨h1, h2, h3, ⟨w, w1, w2, w3, w4⟩, nx, c, k1, k2, k3, k4, k5, k6⟩ := h
  obtain ⟨nx', c1, c2, c3, c4, c5, c6, c7, c8, c9, c10⟩ := hw
  obtain rfl : nx' = nx := by omega
  subst e
  have b : ∀ j : Nat, j ≠ 51 → j ≠ 59 → m0 j = m1 j := fun j a d => by rw [e0, mset_ne a, mset_ne d]
  have b0 : m0 51 0 = m 51 0 := by rw [e0, mset_off (by decide), mset_ne (by decide)]; exact congrFun (c10 51 (by unfold garb; omega) (by omega) (by omega) (by omega) (by omega) (by omega) (by omega)) 0
  have b1 : m0 51 1 = m 51 1 := by rw [e0, mset_off (by decide), mset_ne (by decide)]; exact congrFun (c10 51 (by unfold garb; omega) (by omega) (by omega) (by omega) (by omega) (by omega) (by omega)) 1
  have bm : ∀ j : Nat, 52 ≤ j → j < 59 → m0 j = m j := fun j a d => by rw [b j (by omega) (by omega)]; exact c10 j (by unfold garb; omega) (by omega) (by omega) (by omega) (by omega) (by omega) (by omega)
  obtain ⟨d1, ⟨d2, -⟩, ⟨cc, dd, r1, r2, r3, r4, r5, r6⟩, d4, d5⟩ := hW
  have b52 := bm 52 (by decide) (by decide)
  have rR : ∀ t : Nat, mR m0 t = mR m t := fun t => mR_52 b52 t
  have n : ∀ j : Nat, j ≠ 51 → j ≠ 52 → j ≠ 53 → j ≠ 54 → j ≠ 57 → j ≠ 58 → j ≠ 59 → m3 j = m1 j := fun j a1 a2 a3 a4 a5 a6 a7 => by rw [d1 j a1 a2 a3 a4 a5 a6, b j a1 a7]
  have nr : ∀ j : Nat, (j < 16 ∨ 38 ≤ j ∧ j < 43 ∨ j = 46) → j ≠ s → j ≠ 8 + nx' → m3 j = m j := fun j a a2 a3 => by rw [n j (by omega) (by omega) (by omega) (by omega) (by omega) (by omega) (by omega)]; exact c10 j (by unfold garb; omega) a2 (by omega) a3 (by omega) (by omega) (by omega)
  have hcd : c = cc + dd := by omega
  have e40 := nr 40 (by omega) (by omega) (by omega)
  have e41 := nr 41 (by omega) (by omega) (by omega)
  have e42 := nr 42 (by omega) (by omega) (by omega)
  have e55 : m3 55 = m 55 := by rw [d1 55 (by decide) (by decide) (by decide) (by decide) (by decide) (by decide)]; exact bm 55 (by decide) (by decide)
  have e56 : m3 56 = m 56 := by rw [d1 56 (by decide) (by decide) (by decide) (by decide) (by decide) (by decide)]; exact bm 56 (by decide) (by decide)
  have e510 : m3 51 0 = m 51 0 := by rw [d2, b0]
  have e45 : m3 45 = m1 45 := n 45 (by decide) (by decide) (by decide) (by decide) (by decide) (by decide) (by decide)
  have e47 : m3 47 = m1 47 := n 47 (by decide) (by decide) (by decide) (by decide) (by decide) (by decide) (by decide)
  have hrow : ∀ t : Nat, t < 8 → t ≠ s → eqR (mR m3 t) (mR m t) := fun t t1 t2 => by rw [← rR]; exact d5 t t1 t2
  have hmi : MI m3 := by
    obtain ⟨i1, ⟨w', i2, i3, i4⟩, k', i5, i6, i7⟩ := h2
    refine ⟨fun t ht => ?_, ⟨w', i2, by rw [e510]; exact i3, fun z a b => by rw [e55, e56]; exact i4 z a b⟩, cc + 1, by omega, by rw [r3]; omega, fun i a b => ?_⟩
    · by_cases q : t = s
      · rw [q]; exact rowok_eqR (eqR_trans hfg (eqR_symm d4)) hf
      · exact rowok_eqR (eqR_symm (hrow t ht q)) (i1 t ht)
    · by_cases q : i = cc
      · rw [q, r5]; omega
      · rw [(r4 i a (by omega)).1, bm 57 (by decide) (by decide)]
        exact i7 (i + dd) (by omega) (by omega)
  refine ⟨CI_of c3 (fun j hj => n j (by omega) (by omega) (by omega) (by omega) (by omega) (by omega) (by omega)), hmi, fun t ht => ?_, ⟨w, ?_, ?_, ?_, ?_⟩, (nx' + 1) % 8, cc + 1, Nat.mod_lt _ (by decide), by omega, ?_, ?_, by rw [r3]; omega, fun i hi => ?_⟩
  · by_cases q : t = s
    · subst q
      rw [n t (by omega) (by omega) (by omega) (by omega) (by omega) (by omega) (by omega)]
      exact eqR_trans c4 (eqR_trans hfg (eqR_symm d4))
    · rw [nr t (by omega) q (by omega)]
      exact eqR_trans (h3 t ht) (eqR_symm (hrow t ht q))
  · unfold rwok; rw [e40, e41, e42]; exact w1
  · unfold mwok; rw [e510, e55, e56]; exact w2
  · rw [e41, e55]; exact w3
  · rw [e42, e56]; exact w4
  · rw [e45, c8, Int.tmod_eq_emod_of_nonneg (by omega)]; omega
  · rw [e45, c9, k4]
    split <;> omega
  · have hp : plc ((nx' + 1) % 8) i < 8 := Nat.mod_lt _ (by decide)
    cases i with
    | zero =>
      rw [plc_0 k1, e47, c6, show (((cc + 1 : Nat) : Int) - 1 - ((0 : Nat) : Int)) = cc by omega, r5, n (8 + nx') (by omega) (by omega) (by omega) (by omega) (by omega) (by omega) (by omega)]
      refine ⟨rfl, eqR_trans c5 (eqR_trans (h3 s hs) (fun z z0 z1 => ?_))⟩
      show m 52 (257 * (s : Int) + z) = m3 58 (257 * ((cc + 1 - 1 - 0 : Nat) : Int) + z)
      rw [show cc + 1 - 1 - 0 = cc by omega, r6 z z0 z1, b52]
    | succ i =>
      have hi7 : i < 7 := by omega
      rw [plc_s k1 (by omega), e47, c7 _ (by have := plc_ne k1 hi7; omega), nr (8 + plc nx' i) (by have : plc nx' i < 8 := Nat.mod_lt _ (by decide); omega) (by have : plc nx' i < 8 := Nat.mod_lt _ (by decide); omega) (by have := plc_ne k1 hi7; omega)]
      obtain ⟨u1, u2⟩ := k6 i (by omega)
      have r41 := r4 (((cc + 1 : Nat) : Int) - 1 - ((i + 1 : Nat) : Int)) (by omega) (by omega)
      rw [bm 57 (by decide) (by decide), bm 58 (by decide) (by decide)] at r41
      refine ⟨by rw [r41.1, u1]; exact congrArg (m 57) (by omega), eqR_trans u2 (fun z z0 z1 => ?_)⟩
      have r42 := r41.2 z z0 z1
      show m 58 (257 * ((c - 1 - i : Nat) : Int) + z) = m3 58 (257 * ((cc + 1 - 1 - (i + 1) : Nat) : Int) + z)
      rw [show ((cc + 1 - 1 - (i + 1) : Nat) : Int) = ((cc + 1 : Nat) : Int) - 1 - ((i + 1 : Nat) : Int) by omega, r42]
      exact congrArg (m 58) (by rw [show ((c - 1 - i : Nat) : Int) = ((cc + 1 : Nat) : Int) - 1 - ((i + 1 : Nat) : Int) + dd by omega])
/-- the words written anew -/
theorem Rel_R {m m1 m2 m3 m0 : jM} {w : Nat} {y : Int} {K V K2 V2 : Int → Int} (h : Rel m) (hw : w ≤ 60) (hk : ∀ z : Int, 0 ≤ z → z < w → (-1 ≤ K z ∧ K z ≤ 255) ∧ (-2 ≤ V z ∧ V z ≤ 255)) (hR : CR m w K V m1) (e : m2 = mset m1 59 0 y) (hM : MRw m0 w K2 V2 m3) (e0 : m0 = m2) (h1 : eqW w K K2) (h2 : eqW w V V2) : Rel m3 := by
  subst e0
  obtain ⟨g1, g2, g3, g4, nx, c, k1, k2, k3, k4, k5, k6⟩ := h
  obtain ⟨c1, c2, c3, c4⟩ := hR
  obtain ⟨d1, d2, d3, d4⟩ := hM
  subst e
  have n1 : ∀ j : Nat, j < 50 → m3 j = m1 j := fun j hj => by rw [d1 j (by omega) (by omega) (by omega) (by omega) (by omega), mset_ne (by omega)]
  have n2 : ∀ j : Nat, ¬ garb j → j ≠ 40 → j ≠ 41 → j ≠ 42 → j ≠ 51 → j ≠ 53 → j ≠ 54 → j ≠ 55 → j ≠ 56 → j ≠ 59 → m3 j = m j := fun j g a1 a2 a3 a4 a5 a6 a7 a8 a9 => by rw [d1 j a4 a5 a6 a7 a8, mset_ne a9, c2 j g a1 a2 a3]
  have e51 : m3 51 1 = m 51 1 := by rw [d2, mset_ne (by decide), c2 51 (by unfold garb; omega) (by decide) (by decide) (by decide)]
  have e52 : m3 52 = m 52 := n2 52 (by unfold garb; omega) (by decide) (by decide) (by decide) (by decide) (by decide) (by decide) (by decide) (by decide) (by decide)
  have e57 : m3 57 = m 57 := n2 57 (by unfold garb; omega) (by decide) (by decide) (by decide) (by decide) (by decide) (by decide) (by decide) (by decide) (by decide)
  have e58 : m3 58 = m 58 := n2 58 (by unfold garb; omega) (by decide) (by decide) (by decide) (by decide) (by decide) (by decide) (by decide) (by decide) (by decide)
  have e45 : m3 45 = m 45 := n2 45 (by unfold garb; omega) (by decide) (by decide) (by decide) (by decide) (by decide) (by decide) (by decide) (by decide) (by decide)
  have e47 : m3 47 = m 47 := n2 47 (by unfold garb; omega) (by decide) (by decide) (by decide) (by decide) (by decide) (by decide) (by decide) (by decide) (by decide)
  have hrw : rwok m3 w := by
    unfold rwok
    rw [n1 40 (by decide), n1 41 (by decide), n1 42 (by decide)]
    refine ⟨c3, hw, fun z a b => ?_⟩
    rw [(c4 z a b).1, (c4 z a b).2]
    exact hk z a b
  have hmw : mwok m3 w := by
    refine ⟨hw, d3, fun z a b => ?_⟩
    rw [(d4 z a b).1, (d4 z a b).2, ← h1 z a b, ← h2 z a b]
    exact hk z a b
  obtain ⟨i1, -, k', i5, i6, i7⟩ := g2
  refine ⟨CI_of c1 n1, ⟨fun t ht => by rw [mR_52 e52]; exact i1 t ht, ⟨w, hmw⟩, k', i5, by rw [e51]; exact i6, fun i a b => by rw [e57]; exact i7 i a b⟩, fun s hs => ?_, ⟨w, hrw, hmw, fun z a b => ?_, fun z a b => ?_⟩, nx, c, k1, k2, by rw [e45]; exact k3, by rw [e45]; exact k4, by rw [e51]; exact k5, fun i hi => ?_⟩
  · rw [n2 s (by unfold garb; omega) (by omega) (by omega) (by omega) (by omega) (by omega) (by omega) (by omega) (by omega) (by omega), mR_52 e52]
    exact g3 s hs
  · rw [n1 41 (by decide), (c4 z a b).1, (d4 z a b).1]; exact h1 z a b
  · rw [n1 42 (by decide), (c4 z a b).2, (d4 z a b).2]; exact h2 z a b
  · have hp : plc nx i < 8 := Nat.mod_lt _ (by decide)
    unfold mK
    rw [e47, e57, e58, n2 (8 + plc nx i) (by unfold garb; omega) (by omega) (by omega) (by omega) (by omega) (by omega) (by omega) (by omega) (by omega) (by omega)]
    exact k6 i hi
/-- the latest map given back -/
theorem Rel_B {m m1 m2 m3 : jM} {l s c t : Nat} {y : Int} (h : Rel m) (hB : CB m m1 l s) (e : m2 = mset m1 59 0 y) (hM : MBk m2 c t m3) : Rel m3 ∧ s = t := by
  obtain ⟨h1, h2, h3, ⟨w, w1, w2, w3, w4⟩, nx, n, k1, k2, k3, k4, k5, k6⟩ := h
  obtain ⟨b1, b2, b3, b4, b5, b6, b7, b8, b9⟩ := hB
  obtain ⟨c1, c2, c3, c4, c5, c6, c7, c8, c9⟩ := hM
  subst e
  have q : ∀ j : Nat, j ≠ s → j ≠ 19 + s → j ≠ 45 → j ≠ 59 → mset m1 59 0 y j = m j := fun j a b c d => by rw [mset_ne d, b9 j a b c]
  have q51 := q 51 (by omega) (by omega) (by decide) (by decide)
  have q52 := q 52 (by omega) (by omega) (by decide) (by decide)
  have q57 := q 57 (by omega) (by omega) (by decide) (by decide)
  have q58 := q 58 (by omega) (by omega) (by decide) (by decide)
  rw [q51, k5] at c3
  have hn : n = c + 1 := by omega
  have hl : plc nx 0 = l := by
    rw [k3, Int.tmod_eq_emod_of_nonneg (by omega)] at b3
    unfold plc
    omega
  obtain ⟨u1, u2⟩ := k6 0 (by omega)
  rw [hl] at u1 u2
  have hst : s = t := by
    rw [q57] at c4
    rw [b4, show (n : Int) - 1 - ((0 : Nat) : Int) = c by omega, c4] at u1
    omega
  subst hst
  refine ⟨?_, rfl⟩
  have e0 : ∀ j : Nat, j ≠ 51 → j ≠ 52 → j ≠ 53 → j ≠ 54 → j ≠ 59 → m3 j = m1 j := fun j a b c d e => by rw [c5 j a b c d, mset_ne e]
  have e1 : ∀ j : Nat, j ≠ 51 → j ≠ 52 → j ≠ 53 → j ≠ 54 → j ≠ 59 → j ≠ s → j ≠ 19 + s → j ≠ 45 → m3 j = m j := fun j a b c d e f g h => by rw [e0 j a b c d e, b9 j f g h]
  have e55 := e1 55 (by decide) (by decide) (by decide) (by decide) (by decide) (by omega) (by omega) (by decide)
  have e56 := e1 56 (by decide) (by decide) (by decide) (by decide) (by decide) (by omega) (by omega) (by decide)
  have e57 := e1 57 (by decide) (by decide) (by decide) (by decide) (by decide) (by omega) (by omega) (by decide)
  have e58 := e1 58 (by decide) (by decide) (by decide) (by decide) (by decide) (by omega) (by omega) (by decide)
  have e40 := e1 40 (by decide) (by decide) (by decide) (by decide) (by decide) (by omega) (by omega) (by decide)
  have e41 := e1 41 (by decide) (by decide) (by decide) (by decide) (by decide) (by omega) (by omega) (by decide)
  have e42 := e1 42 (by decide) (by decide) (by decide) (by decide) (by decide) (by omega) (by omega) (by decide)
  have e47 := e1 47 (by decide) (by decide) (by decide) (by decide) (by decide) (by omega) (by omega) (by decide)
  have e45 := e0 45 (by decide) (by decide) (by decide) (by decide) (by decide)
  have e510 : m3 51 0 = m 51 0 := by rw [c6, q51]
  have hrs : eqR (m3 s) (mR m3 s) := by
    rw [e0 s (by omega) (by omega) (by omega) (by omega) (by omega), b6]
    refine eqR_trans u2 (eqR_trans (fun z _ _ => ?_) (eqR_symm c8))
    show m 58 (257 * ((n - 1 - 0 : Nat) : Int) + z) = mset m1 59 0 y 58 (257 * (c : Int) + z)
    rw [q58, show n - 1 - 0 = c by omega]
  have hrt : ∀ t : Nat, t < 8 → t ≠ s → eqR (m t) (mR m3 t) := fun t t1 t2 => by
    refine eqR_trans (h3 t t1) (eqR_symm ?_)
    have := c9 t t1 t2
    rw [mR_52 q52] at this
    exact this
  have hC3 : CI m3 := CI_of b5 (fun j hj => e0 j (by omega) (by omega) (by omega) (by omega) (by omega))
  obtain ⟨i1, ⟨w', i2, i3, i4⟩, k', i5, i6, i7⟩ := h2
  refine ⟨hC3, ⟨fun t ht => ?_, ⟨w', i2, by rw [e510]; exact i3, fun z a b => by rw [e55, e56]; exact i4 z a b⟩, c, by omega, c7, fun i a b => by rw [e57]; exact i7 i a (by omega)⟩, fun t ht => ?_, ⟨w, ?_, ?_, ?_, ?_⟩, l, c, b1, by omega, by rw [e45]; exact b7, by rw [e45, b8, k4]; omega, c7, fun i hi => ?_⟩
  · by_cases z : t = s
    · rw [z]
      exact rowok_eqR hrs (hC3.1 s (by omega)).1
    · exact rowok_eqR (hrt t ht z) (h1.1 t (by omega)).1
  · by_cases z : t = s
    · rw [z]; exact hrs
    · rw [e1 t (by omega) (by omega) (by omega) (by omega) (by omega) z (by omega) (by omega)]
      exact hrt t ht z
  · unfold rwok; rw [e40, e41, e42]; exact w1
  · unfold mwok; rw [e510, e55, e56]; exact w2
  · rw [e41, e55]; exact w3
  · rw [e42, e56]; exact w4
  · obtain ⟨v1, v2⟩ := k6 (i + 1) (by omega)
    have hpl : plc nx (i + 1) = plc l i := by rw [← hl]; unfold plc; omega
    have hp : plc l i < 8 := Nat.mod_lt _ (by decide)
    rw [hpl] at v1 v2
    unfold mK at v2 ⊢
    rw [e47, e57, e58, v1, e1 (8 + plc l i) (by omega) (by omega) (by omega) (by omega) (by omega) (by omega) (by omega) (by omega), show c - 1 - i = n - 1 - (i + 1) by omega]
    exact ⟨congrArg (m 57) (by omega), v2⟩
theorem ckA_eq {m m1 : jM} (h : ∀ s : Nat, s < 8 → eqR (m s) (mR m1 s)) : ∀ n : Nat, n ≤ 8 → ckA m n = ckB m1 n
  | 0, _ => by rw [ckA_0, ckB_0]
  | n + 1, hn => by rw [ckA_s, ckB_s, ckA_eq h n (by omega), ckT_eqR (h n (by omega)) _ 257 (Nat.le_refl _)]
theorem sizeA_eq {m m1 : jM} (h : ∀ s : Nat, s < 8 → eqR (m s) (mR m1 s)) : sizeA m 8 = sizeB m1 8 := sumN_congr 8 (fun z a b => cnt_congr (h z.toNat (by omega)))

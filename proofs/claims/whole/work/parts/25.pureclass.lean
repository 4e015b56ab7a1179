/-! PURE WORDS of the class's memory: well; quiet; a slot written and kept -/
def garb (j : Nat) : Prop := j = 16 ∨ j = 17 ∨ j = 18 ∨ j = 35 ∨ j = 36 ∨ j = 37 ∨ j = 43 ∨ j = 44 ∨ j = 48 ∨ j = 49 ∨ j = 50
def CI (m : jM) : Prop := (∀ t : Nat, t < 19 → tok m t) ∧ (∃ w : Nat, rwok m w) ∧ (∃ nx : Nat, nx < 8 ∧ m 45 0 = nx) ∧ (0 ≤ m 45 1 ∧ m 45 1 ≤ 8) ∧ ∀ i : Int, 0 ≤ i → i < 8 → 0 ≤ m 47 i ∧ m 47 i < 8
def CQ (m m1 : jM) : Prop := CI m1 ∧ ∀ j : Nat, ¬ garb j → m1 j = m j
theorem CQ_rfl {m : jM} (h : CI m) : CQ m m := ⟨h, fun _ _ => rfl⟩
theorem CQ_trans {m m1 m2 : jM} (h1 : CQ m m1) (h2 : CQ m1 m2) : CQ m m2 := ⟨h2.1, fun j hj => (h2.2 j hj).trans (h1.2 j hj)⟩
/-- a memory that has the same rows but some of the rooms to work in, these being well -/
theorem CQ_of {m m1 : jM} (h : CI m) (h1 : ∀ j : Nat, ¬ garb j → m1 j = m j) (h2 : ∀ t : Nat, 16 ≤ t → t < 19 → tok m1 t) : CQ m m1 := by
  refine ⟨⟨fun t ht => ?_, ?_, ?_, ?_, ?_⟩, h1⟩
  · by_cases e : 16 ≤ t
    · exact h2 t e ht
    · unfold tok
      rw [h1 t (by unfold garb; omega), h1 (19 + t) (by unfold garb; omega)]
      exact h.1 t ht
  · obtain ⟨w, hw⟩ := h.2.1
    refine ⟨w, ?_⟩
    unfold rwok
    rw [h1 40 (by unfold garb; omega), h1 41 (by unfold garb; omega), h1 42 (by unfold garb; omega)]
    exact hw
  · rw [h1 45 (by unfold garb; omega)]; exact h.2.2.1
  · rw [h1 45 (by unfold garb; omega)]; exact h.2.2.2.1
  · rw [h1 47 (by unfold garb; omega)]; exact h.2.2.2.2
theorem CQ_row {m : jM} (h : CI m) {j : Nat} (hj : garb j) (h38 : 38 ≤ j) (f : Int → Int) : CQ m (mrow m j f) := by
  refine CQ_of h (fun i hi => mrow_ne (fun q => hi (by rw [q]; exact hj))) (fun t h1 h2 => ?_)
  unfold tok
  rw [mrow_ne (by omega), mrow_ne (by omega)]
  exact h.1 t h2
theorem CQ_tset {m : jM} (h : CI m) {t : Nat} (h1 : 16 ≤ t) (h2 : t < 19) {f : Int → Int} (hf : rowok f) : CQ m (tset m t f) := by
  refine CQ_of h (fun i hi => tset_ne (fun q => hi (by unfold garb; omega)) (fun q => hi (by unfold garb; omega))) (fun u u1 u2 => ?_)
  by_cases e : u = t
  · rw [e]; exact tset_tok hf
  · exact tset_tok_ne u2 h2 e (h.1 u u2)
theorem CI_tset {m : jM} (h : CI m) {t : Nat} (h2 : t < 19) {f : Int → Int} (hf : rowok f) : CI (tset m t f) := by
  refine ⟨fun u u2 => ?_, ?_, ?_, ?_, ?_⟩
  · by_cases e : u = t
    · rw [e]; exact tset_tok hf
    · exact tset_tok_ne u2 h2 e (h.1 u u2)
  · obtain ⟨w, hw⟩ := h.2.1
    refine ⟨w, ?_⟩
    unfold rwok
    rw [tset_ne (i := 40) (by omega) (by omega), tset_ne (i := 41) (by omega) (by omega), tset_ne (i := 42) (by omega) (by omega)]
    exact hw
  · rw [tset_ne (by omega) (by omega)]; exact h.2.2.1
  · rw [tset_ne (by omega) (by omega)]; exact h.2.2.2.1
  · rw [tset_ne (by omega) (by omega)]; exact h.2.2.2.2
theorem keepM_row {m : jM} {s : Int} {t nx j : Nat} (h1 : j ≠ 45) (h2 : j ≠ 47) (h3 : j ≠ 8 + nx) (h4 : j ≠ 27 + nx) : keepM m s t nx j = m j := by
  unfold keepM
  rw [mset_ne h1, mset_ne h1, mset_ne h2, tset_ne h3 (by omega)]
theorem keepM_t {m : jM} {s : Int} {t nx : Nat} (hn : nx < 8) : keepM m s t nx (8 + nx) = m t := by
  unfold keepM
  rw [mset_ne (by omega), mset_ne (by omega), mset_ne (by omega), tset_at]
theorem keepM_ct {m : jM} {s : Int} {t nx : Nat} (hn : nx < 8) : keepM m s t nx (19 + (8 + nx)) 0 = cnt (m t) := by
  unfold keepM
  rw [mset_ne (by omega), mset_ne (by omega), mset_ne (by omega), tset_ct]
theorem keepM_47 {m : jM} {s : Int} {t nx : Nat} (hn : nx < 8) (i : Int) : keepM m s t nx 47 i = if i = nx then s else m 47 i := by
  unfold keepM
  rw [mset_ne (by omega), mset_ne (by omega)]
  unfold mset
  rw [tset_ne (by omega) (by omega)]
  by_cases e : i = nx
  · rw [if_pos ⟨rfl, e⟩, if_pos e]
  · rw [if_neg (fun q => e q.2), if_neg e]
theorem keepM_450 {m : jM} {s : Int} {t nx : Nat} : keepM m s t nx 45 0 = ((nx : Int) + 1).tmod 8 := by
  unfold keepM
  rw [mset_off (by decide), mset_at]
theorem keepM_451 {m : jM} {s : Int} {t nx : Nat} : keepM m s t nx 45 1 = if 8 < m 45 1 + 1 then 8 else m 45 1 + 1 := mset_at _ _ _ _
theorem keepM_CI {m : jM} (h : CI m) {s t nx : Nat} (hs : s < 8) (ht : t < 8) (hn : nx < 8) : CI (keepM m s t nx) := by
  refine ⟨fun u hu => ?_, ?_, ?_, ?_, ?_⟩
  · by_cases e : u = 8 + nx
    · subst e
      unfold tok
      rw [keepM_t hn, keepM_ct hn]
      exact ⟨(h.1 t (by omega)).1, rfl⟩
    · unfold tok
      rw [keepM_row (by omega) (by omega) e (by omega), keepM_row (by omega) (by omega) (by omega) (by omega)]
      exact h.1 u hu
  · obtain ⟨w, hw⟩ := h.2.1
    refine ⟨w, ?_⟩
    unfold rwok
    rw [keepM_row (j := 40) (by omega) (by omega) (by omega) (by omega), keepM_row (j := 41) (by omega) (by omega) (by omega) (by omega), keepM_row (j := 42) (by omega) (by omega) (by omega) (by omega)]
    exact hw
  · rw [keepM_450]
    have hb := tmod_b (a := (nx : Int) + 1) (b := 8) (by omega) (by decide)
    exact ⟨(((nx : Int) + 1).tmod 8).toNat, by omega, by omega⟩
  · rw [keepM_451]
    have := h.2.2.2.1
    split <;> omega
  · intro i h0 h1
    rw [keepM_47 hn]
    have := h.2.2.2.2 i h0 h1
    split <;> omega
/-- slot s gets f; what it held is kept -/
def CW (m : jM) (s : Nat) (f : Int → Int) (m1 : jM) : Prop := ∃ nx : Nat, nx < 8 ∧ m 45 0 = nx ∧ CI m1 ∧ eqR (m1 s) f ∧ eqR (m1 (8 + nx)) (m s) ∧ m1 47 nx = s ∧ (∀ i : Int, i ≠ nx → m1 47 i = m 47 i) ∧ m1 45 0 = ((nx : Int) + 1).tmod 8 ∧ m1 45 1 = (if 8 < m 45 1 + 1 then 8 else m 45 1 + 1) ∧ ∀ j : Nat, ¬ garb j → j ≠ s → j ≠ 19 + s → j ≠ 8 + nx → j ≠ 27 + nx → j ≠ 45 → j ≠ 47 → m1 j = m j
theorem eqR_rfl (f : Int → Int) : eqR f f := fun _ _ _ => rfl
theorem eqR_symm {f g : Int → Int} (h : eqR f g) : eqR g f := fun z h0 h1 => (h z h0 h1).symm
theorem eqR_trans {f g k : Int → Int} (h : eqR f g) (h2 : eqR g k) : eqR f k := fun z h0 h1 => (h z h0 h1).trans (h2 z h0 h1)
theorem CW_tset {m : jM} (h : CI m) {s nx : Nat} (hs : s < 8) (hn : nx < 8) (hnx : m 45 0 = nx) {f : Int → Int} (hf : rowok f) : CW m s f (tset (keepM m s s nx) s f) := by
  refine ⟨nx, hn, hnx, CI_tset (keepM_CI h hs hs hn) (by omega) hf, by rw [tset_at]; exact eqR_rfl f, ?_, ?_, fun i hi => ?_, ?_, ?_, fun j h0 h1 h2 h3 h4 h5 h6 => ?_⟩
  · rw [tset_ne (by omega) (by omega), keepM_t hn]; exact eqR_rfl _
  · rw [tset_ne (by omega) (by omega), keepM_47 hn, if_pos rfl]
  · rw [tset_ne (by omega) (by omega), keepM_47 hn, if_neg hi]
  · rw [tset_ne (by omega) (by omega), keepM_450]
  · rw [tset_ne (by omega) (by omega), keepM_451]
  · rw [tset_ne h1 h2, keepM_row h5 h6 h3 h4]
theorem CW_keep {m : jM} (h : CI m) {s nx : Nat} (hs : s < 8) (hn : nx < 8) (hnx : m 45 0 = nx) : CW m s (m s) (keepM m s s nx) := by
  have e : keepM m s s nx s = m s := keepM_row (by omega) (by omega) (by omega) (by omega)
  have e2 : keepM m s s nx (19 + s) = m (19 + s) := keepM_row (by omega) (by omega) (by omega) (by omega)
  have h2 := CW_tset h hs hn hnx (h.1 s (by omega)).1
  rw [← e, tset_self (by rw [e, e2]; exact (h.1 s (by omega)).2)] at h2
  rw [← e]
  exact h2
theorem CW_eq {m m1 : jM} {s : Nat} {f g : Int → Int} (h : CW m s f m1) (he : eqR f g) : CW m s g m1 := by
  obtain ⟨nx, h1, h2, h3, h4, h5⟩ := h
  exact ⟨nx, h1, h2, h3, eqR_trans h4 he, h5⟩
theorem CW_CQ {m m0 m1 : jM} {s : Nat} (hs : s < 8) {f : Int → Int} (hq : CQ m m0) (h : CW m0 s f m1) : CW m s f m1 := by
  obtain ⟨nx, h1, h2, h3, h4, h5, h6, h7, h8, h9, h10⟩ := h
  have g45 := hq.2 45 (by unfold garb; omega)
  have g47 := hq.2 47 (by unfold garb; omega)
  have gs := hq.2 s (by unfold garb; omega)
  rw [g45] at h2 h9
  rw [gs] at h5
  rw [g47] at h7
  exact ⟨nx, h1, h2, h3, h4, h5, h6, h7, h8, h9, fun j a b c d e f g => (h10 j a b c d e f g).trans (hq.2 j a)⟩
def num (k : Int) : Prop := -1 ≤ k ∧ k ≤ 255
